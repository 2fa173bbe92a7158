import com.sun.source.tree.AssertTree;
import com.sun.source.tree.BinaryTree;
import com.sun.source.tree.BlockTree;
import com.sun.source.tree.ClassTree;
import com.sun.source.tree.CompilationUnitTree;
import com.sun.source.tree.DoWhileLoopTree;
import com.sun.source.tree.ExpressionTree;
import com.sun.source.tree.ForLoopTree;
import com.sun.source.tree.ImportTree;
import com.sun.source.tree.LambdaExpressionTree;
import com.sun.source.tree.LiteralTree;
import com.sun.source.tree.MemberReferenceTree;
import com.sun.source.tree.MethodInvocationTree;
import com.sun.source.tree.MethodTree;
import com.sun.source.tree.NewArrayTree;
import com.sun.source.tree.NewClassTree;
import com.sun.source.tree.SynchronizedTree;
import com.sun.source.tree.ThrowTree;
import com.sun.source.tree.Tree;
import com.sun.source.tree.TryTree;
import com.sun.source.tree.VariableTree;
import com.sun.source.tree.WhileLoopTree;
import com.sun.source.util.JavacTask;
import com.sun.source.util.TreePath;
import com.sun.source.util.TreePathScanner;
import com.sun.source.util.Trees;
import java.io.IOException;
import java.nio.file.Path;
import java.util.List;
import java.util.Map;
import java.util.Set;
import java.util.TreeMap;
import java.util.TreeSet;
import javax.lang.model.element.Element;
import javax.lang.model.element.ElementKind;
import javax.lang.model.element.Modifier;
import javax.lang.model.type.ArrayType;
import javax.lang.model.type.TypeKind;
import javax.lang.model.type.TypeMirror;
import javax.tools.JavaCompiler;
import javax.tools.StandardJavaFileManager;
import javax.tools.ToolProvider;

/**
 * The class keeps to the rules of LANGUAGE.md, as far as its source shows it. Where a rule leaves more than the class
 * needs (catches, recursion, lists, new objects in calls), this test leaves what the class needs.
 */
public final class LanguageTest extends TreePathScanner<Void, Void> {
  private static final String SOURCE = "src/main/java/NearWords.java";
  private static final Set<String> LIBRARY = Set.of("java.lang.Math.max", "java.lang.Math.min", "java.lang.Math.abs",
      "java.lang.Integer.bitCount", "java.lang.System.arraycopy", "java.util.Arrays.fill");
  private static final Set<String> THROWN = Set.of("IllegalStateException", "IllegalArgumentException",
      "IndexOutOfBoundsException", "ArithmeticException", "UnsupportedOperationException", "NoSuchElementException",
      "RuntimeException");
  private static final int MOST_PARAMETERS = 7;
  private static final int MOST_LINES = 60;
  private static final int MOST_CLASSES = 12;
  private static final int MOST_FIELDS = 20;
  private static final int DEEPEST = 8;

  private final Checks checks = new Checks();
  private final CompilationUnitTree unit;
  private final Trees trees;
  private final Map<String, Set<String>> calls = new TreeMap<>();
  private int classes = 0;

  private LanguageTest(CompilationUnitTree unit, Trees trees) {
    this.unit = unit;
    this.trees = trees;
  }

  public static void main(String[] args) throws IOException {
    JavaCompiler compiler = ToolProvider.getSystemJavaCompiler();
    try (StandardJavaFileManager files = compiler.getStandardFileManager(null, null, null)) {
      JavacTask task = (JavacTask) compiler.getTask(null, files, null, List.of("-proc:none"), null,
          files.getJavaFileObjects(Path.of(SOURCE)));
      CompilationUnitTree unit = task.parse().iterator().next();
      task.analyze();
      new LanguageTest(unit, Trees.instance(task)).lookAtAll();
    }
  }

  private void lookAtAll() {
    checks.due("no package line", unit.getPackageName() == null, true);
    checks.due("classes of the file", unit.getTypeDecls().size(), 1);
    scan(unit, null);
    checks.due("rule 11: " + classes + " classes", classes <= MOST_CLASSES, true);
    for (String method : calls.keySet()) {
      checks.due("rules 8, 11: calls one within the other from " + method, depthOf(method, 1) <= DEEPEST, true);
    }
    checks.finish();
  }

  /** How many calls stand open at once, that one among them; a circle of calls goes deeper than is asked. */
  private int depthOf(String method, int level) {
    int deepest = 0;
    if (level <= DEEPEST) {
      for (String called : calls.getOrDefault(method, Set.of())) {
        deepest = Math.max(deepest, depthOf(called, level + 1));
      }
    }
    return deepest + 1;
  }

  private void ban(String what, Tree tree) {
    long line = unit.getLineMap().getLineNumber(startOf(tree));
    checks.due(what + " in line " + line, true, false);
  }

  private void rule(String what, Tree tree, boolean kept) {
    if (kept) {
      checks.due(what, true, true);
    } else {
      ban(what, tree);
    }
  }

  private long startOf(Tree tree) {
    return trees.getSourcePositions().getStartPosition(unit, tree);
  }

  private Element elementOf(Tree tree) {
    return trees.getElement(TreePath.getPath(unit, tree));
  }

  private TypeMirror typeOf(Tree tree) {
    return trees.getTypeMirror(TreePath.getPath(unit, tree));
  }

  private boolean isInside(Class<? extends Tree> kind) {
    for (TreePath path = getCurrentPath().getParentPath(); path != null; path = path.getParentPath()) {
      if (kind.isInstance(path.getLeaf())) {
        return true;
      }
    }
    return false;
  }

  /** The method round the place that is looked at, null where it is a field's. */
  private MethodTree methodAround() {
    for (TreePath path = getCurrentPath(); path != null; path = path.getParentPath()) {
      if (path.getLeaf() instanceof MethodTree) {
        return (MethodTree) path.getLeaf();
      }
    }
    return null;
  }

  private static String nameOf(Element method) {
    return method.getEnclosingElement() + "." + method;
  }

  private static boolean isOwn(Element element) {
    return element.getEnclosingElement().toString().startsWith("NearWords");
  }

  @Override
  public Void visitImport(ImportTree tree, Void none) {
    rule("rule 4: import", tree, tree.getQualifiedIdentifier().toString().equals("java.util.NoSuchElementException"));
    return super.visitImport(tree, none);
  }

  @Override
  public Void visitClass(ClassTree tree, Void none) {
    classes++;
    rule("rule 2: a class in a method", tree, methodAround() == null && tree.getSimpleName().length() > 0);
    boolean outermost = getCurrentPath().getParentPath().getLeaf() == unit;
    rule("rule 1: static", tree, outermost || tree.getModifiers().getFlags().contains(Modifier.STATIC));
    int fields = 0;
    for (Tree member : tree.getMembers()) {
      rule("rule 5: an initialiser block", member, !(member instanceof BlockTree));
      if (member instanceof VariableTree && !elementOf(member).getModifiers().contains(Modifier.STATIC)) {
        fields++;
      }
    }
    rule("rule 11: fields", tree, fields <= MOST_FIELDS);
    return super.visitClass(tree, none);
  }

  @Override
  public Void visitMethod(MethodTree tree, Void none) {
    rule("rule 11: parameters", tree, tree.getParameters().size() <= MOST_PARAMETERS);
    long end = trees.getSourcePositions().getEndPosition(unit, tree);
    if (end >= 0) {
      long lines = unit.getLineMap().getLineNumber(end) - unit.getLineMap().getLineNumber(startOf(tree)) + 1;
      rule("rule 11: lines of a method", tree, lines <= MOST_LINES);
    }
    calls.computeIfAbsent(nameOf(elementOf(tree)), key -> new TreeSet<>());
    return super.visitMethod(tree, none);
  }

  @Override
  public Void visitVariable(VariableTree tree, Void none) {
    Element variable = elementOf(tree);
    if (variable.getModifiers().contains(Modifier.STATIC)) {
      boolean plain = variable.asType().getKind() == TypeKind.INT || variable.asType().getKind() == TypeKind.LONG;
      rule("rule 5: a static field", tree, variable.getModifiers().contains(Modifier.FINAL) && plain);
    }
    rule("rule 3: the type " + variable.asType(), tree, isFineType(variable.asType()));
    return super.visitVariable(tree, none);
  }

  private static boolean isFineType(TypeMirror type) {
    TypeMirror one = type.getKind() == TypeKind.ARRAY ? ((ArrayType) type).getComponentType() : type;
    boolean exact = one.getKind() == TypeKind.FLOAT || one.getKind() == TypeKind.DOUBLE;
    return one.getKind().isPrimitive() && !exact || one.toString().startsWith("NearWords");
  }

  @Override
  public Void visitMethodInvocation(MethodInvocationTree tree, Void none) {
    Element called = elementOf(tree.getMethodSelect());
    MethodTree around = methodAround();
    if (called.getKind() == ElementKind.METHOD) {
      String plain = called.getEnclosingElement() + "." + called.getSimpleName();
      rule("rule 4: a call of " + plain, tree, isOwn(called) || LIBRARY.contains(plain));
      if (isOwn(called) && around != null) {
        calls.computeIfAbsent(nameOf(elementOf(around)), key -> new TreeSet<>()).add(nameOf(called));
      }
    }
    return super.visitMethodInvocation(tree, none);
  }

  @Override
  public Void visitThrow(ThrowTree tree, Void none) {
    boolean fine = false;
    if (tree.getExpression() instanceof NewClassTree) {
      NewClassTree made = (NewClassTree) tree.getExpression();
      List<? extends ExpressionTree> words = made.getArguments();
      fine = THROWN.contains(made.getIdentifier().toString())
          && (words.isEmpty() || words.size() == 1 && words.get(0) instanceof LiteralTree);
    }
    rule("rule 6: a throw", tree, fine && elementOf(methodAround()).getKind() == ElementKind.METHOD);
    return super.visitThrow(tree, none);
  }

  private void lookAtNew(Tree tree) {
    MethodTree around = methodAround();
    boolean early = around == null || elementOf(around).getKind() == ElementKind.CONSTRUCTOR;
    boolean thrown = getCurrentPath().getParentPath().getLeaf() instanceof ThrowTree;
    rule("rule 12: calls make nothing", tree, early || thrown);
    rule("rule 12: an object made in a loop", tree, !isInside(ForLoopTree.class) && !isInside(WhileLoopTree.class));
  }

  @Override
  public Void visitNewClass(NewClassTree tree, Void none) {
    lookAtNew(tree);
    return super.visitNewClass(tree, none);
  }

  @Override
  public Void visitNewArray(NewArrayTree tree, Void none) {
    lookAtNew(tree);
    return super.visitNewArray(tree, none);
  }

  @Override
  public Void visitForLoop(ForLoopTree tree, Void none) {
    rule("rule 9: a loop's end", tree, tree.getCondition() != null && !tree.getUpdate().isEmpty());
    return super.visitForLoop(tree, none);
  }

  @Override
  public Void visitWhileLoop(WhileLoopTree tree, Void none) {
    rule("rule 9: a loop's end", tree, !tree.getCondition().toString().equals("(true)"));
    return super.visitWhileLoop(tree, none);
  }

  @Override
  public Void visitDoWhileLoop(DoWhileLoopTree tree, Void none) {
    rule("rule 9: a loop's end", tree, !tree.getCondition().toString().equals("(true)"));
    return super.visitDoWhileLoop(tree, none);
  }

  @Override
  public Void visitBinary(BinaryTree tree, Void none) {
    rule("rule 10: texts joined by +", tree, typeOf(tree).getKind().isPrimitive());
    // A divisor would have to be looked at first; the class needs none.
    boolean divides = tree.getKind() == Tree.Kind.DIVIDE || tree.getKind() == Tree.Kind.REMAINDER;
    rule("rule 7: a divisor", tree, !divides);
    return super.visitBinary(tree, none);
  }

  @Override
  public Void visitTry(TryTree tree, Void none) {
    ban("rule 6: try", tree);
    return super.visitTry(tree, none);
  }

  @Override
  public Void visitLambdaExpression(LambdaExpressionTree tree, Void none) {
    ban("rule 2: a lambda", tree);
    return super.visitLambdaExpression(tree, none);
  }

  @Override
  public Void visitMemberReference(MemberReferenceTree tree, Void none) {
    ban("rule 2: a method reference", tree);
    return super.visitMemberReference(tree, none);
  }

  @Override
  public Void visitSynchronized(SynchronizedTree tree, Void none) {
    ban("rule 6: synchronized", tree);
    return super.visitSynchronized(tree, none);
  }

  @Override
  public Void visitAssert(AssertTree tree, Void none) {
    ban("rule 6: assert", tree);
    return super.visitAssert(tree, none);
  }
}
