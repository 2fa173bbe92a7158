import java.io.IOException;
import java.lang.reflect.Constructor;
import java.lang.reflect.Field;
import java.lang.reflect.Method;
import java.lang.reflect.Modifier;
import java.nio.file.Files;
import java.nio.file.Path;
import java.util.Arrays;
import java.util.NoSuchElementException;
import java.util.TreeSet;

/** The class's face is the document's, and nothing beside it can be seen. */
public final class FaceTest {
  private static final String[] METHODS = {
    "boolean letters 1", "boolean cost 3", "boolean swap 1", "boolean drop 1", "boolean gap 1", "int feed 5",
    "int end 1", "int word 0", "int text 0", "boolean part 2", "int apart 2", "int from 1", "int centre 0",
    "int centreAt 1", "int without 1", "int leftOut 1", "int within 1", "int lettersAt 2", "int core 1",
    "int coreSet 1", "int cover 1", "int centres 1", "int edits 2", "int editsFrom 1", "int middle 0",
    "int middleLength 0", "int middleAt 1", "int median 0", "int medianAt 1", "int medians 0", "int motif 1",
    "int motifAt 2", "int motifIn 2", "int of 2", "int count 1"
  };

  public static void main(String[] args) throws Exception {
    Checks checks = new Checks();
    Class<NearWords> face = NearWords.class;
    checks.due("public final", Modifier.isPublic(face.getModifiers()) && Modifier.isFinal(face.getModifiers()), true);
    checks.due("NONE", NearWords.NONE, -1);
    TreeSet<String> seen = new TreeSet<>();
    TreeSet<String> hidden = new TreeSet<>();
    for (Method m : face.getDeclaredMethods()) {
      if (Modifier.isPrivate(m.getModifiers()) || m.isSynthetic()) {
        hidden.add(m.getName());
        continue;
      }
      checks.due(m + " is public and no static one", Modifier.isPublic(m.getModifiers())
          && !Modifier.isStatic(m.getModifiers()), true);
      checks.due(m + " takes ints", Arrays.stream(m.getParameterTypes()).allMatch(t -> t == int.class), true);
      checks.due(m + " throws", Arrays.toString(m.getExceptionTypes()),
          m.getName().equals("motifIn") ? "[" + NoSuchElementException.class + "]" : "[]");
      seen.add(m.getReturnType() + " " + m.getName() + " " + m.getParameterCount());
    }
    checks.due("methods", seen.toString(), new TreeSet<>(Arrays.asList(METHODS)).toString());
    for (String method : METHODS) {
      checks.due("a hidden method " + method, hidden.contains(method.split(" ")[1]), false);
    }
    for (Field f : face.getDeclaredFields()) {
      boolean open = f.getName().equals("NONE");
      checks.due(f + " is private", Modifier.isPrivate(f.getModifiers()), !open);
    }
    Constructor<?>[] makers = face.getDeclaredConstructors();
    checks.due("constructors", makers.length, 1);
    checks.due("its parameters", makers[0].getParameterCount(), 0);
    checks.due("it is public", Modifier.isPublic(makers[0].getModifiers()), true);
    for (Class<?> inside : face.getDeclaredClasses()) {
      checks.due(inside + " is static and not public", Modifier.isStatic(inside.getModifiers())
          && !Modifier.isPublic(inside.getModifiers()) && !Modifier.isProtected(inside.getModifiers()), true);
      for (Method m : inside.getDeclaredMethods()) {
        String name = m.getName();
        boolean borrowed = Arrays.stream(METHODS).anyMatch(s -> s.split(" ")[1].equals(name));
        checks.due(inside + "." + name + " bears a name of the face", borrowed, false);
      }
    }
    lookAtTheDocument(checks);
    checks.finish();
  }

  /** The document's own lines of the face: each stands in the class, its parameters' names too. */
  private static void lookAtTheDocument(Checks checks) throws IOException {
    String document = System.getProperty("document", "");
    if (document.isEmpty() || !Files.isReadable(Path.of(document))) {
      System.out.println("no document: the face is compared with the list in this test alone");
      return;
    }
    String source = Files.readString(Path.of("src/main/java/NearWords.java"));
    String text = Files.readString(Path.of(document));
    int lines = 0;
    for (String line : text.substring(text.indexOf("```java"), text.indexOf("## Terms")).split("\n")) {
      if (line.startsWith("    public ") && line.endsWith(";")) {
        lines++;
        String plain = "  " + line.trim();
        String opened = plain.substring(0, plain.length() - 1) + " {\n";
        checks.due("the face has" + plain, source.contains(plain + "\n") || source.contains(opened), true);
      }
    }
    // The constant, the constructor and the methods.
    checks.due("lines of the document's face", lines, METHODS.length + 2);
  }
}
