import java.lang.reflect.InvocationTargetException;
import java.lang.reflect.Method;
import java.nio.file.Files;
import java.nio.file.Path;
import java.util.ArrayList;
import java.util.Comparator;
import java.util.List;

/**
 * Runs each boundary case's own test, and looks whether the tests together quote every word of the document's promises,
 * of its terms and of what the class is. The document is told by -Ddocument; without it the quotes are not compared.
 */
public final class EdgeTest {
  private static final Class<?>[] EDGES = {
    AboutEdges.class, TermEdges.class, RuleEdges.class, TapeEdges.class, DistanceEdges.class, CandidateEdges.class,
    WithoutEdges.class, SetEdges.class, MiddleEdges.class, MotifEdges.class, StateEdges.class, RefusalEdges.class,
    ChangeEdges.class, FullEdges.class
  };

  public static void main(String[] args) throws Exception {
    List<Method> tests = tests();
    int failed = 0;
    for (Method test : tests) {
      failed += holds(test) ? 0 : 1;
    }
    failed += unquoted(tests);
    System.out.println(tests.size() + " edges, " + failed + " wrong");
    if (failed > 0 || tests.isEmpty()) {
      System.exit(1);
    }
  }

  private static List<Method> tests() {
    List<Method> found = new ArrayList<>();
    for (Class<?> edges : EDGES) {
      for (Method m : edges.getDeclaredMethods()) {
        if (m.isAnnotationPresent(Edge.class)) {
          found.add(m);
        }
      }
    }
    found.sort(Comparator.comparing((Method m) -> m.getAnnotation(Edge.class).promise()).thenComparing(Method::getName));
    return found;
  }

  private static boolean holds(Method test) throws IllegalAccessException {
    Edge edge = test.getAnnotation(Edge.class);
    Checks checks = new Checks();
    try {
      test.invoke(null, checks);
    } catch (InvocationTargetException e) {
      System.out.println(e.getCause());
      checks.due("a throw", true, false);
    }
    if (checks.areAsDue()) {
      return true;
    }
    System.out.println("  so " + edge.promise() + " does not hold: " + edge.says() + " (" + test.getName() + ")");
    return false;
  }

  private static int unquoted(List<Method> tests) throws Exception {
    String document = System.getProperty("document", "");
    if (document.isEmpty() || !Files.isReadable(Path.of(document))) {
      System.out.println("no document: quotes are not compared");
      return 0;
    }
    Quotes quotes = new Quotes(Path.of(document));
    int wrong = 0;
    for (Method test : tests) {
      Edge edge = test.getAnnotation(Edge.class);
      if (!quotes.mark(edge.promise(), edge.says())) {
        wrong++;
        System.out.println(test.getName() + " quotes what " + edge.promise() + " does not say: " + edge.says());
      }
    }
    for (int number : quotes.numbers()) {
      if (!quotes.unquoted(number).isEmpty()) {
        wrong++;
        System.out.println("no test quotes of " + number + ": " + quotes.unquoted(number));
      }
    }
    return wrong;
  }
}
