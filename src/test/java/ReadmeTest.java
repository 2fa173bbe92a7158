import java.lang.reflect.InvocationTargetException;
import java.lang.reflect.Method;
import java.lang.reflect.Modifier;
import java.nio.file.Files;
import java.nio.file.Path;
import java.util.Arrays;
import java.util.regex.Matcher;
import java.util.regex.Pattern;

/** Plays the examples of README.md, each call of which tells its answer, and looks whether every call is told of. */
public final class ReadmeTest {
  private static final Pattern EXAMPLE = Pattern.compile("```java\n(.*?)```", Pattern.DOTALL);
  private static final Pattern CALL = Pattern.compile("x\\.(\\w+)\\((.*?)\\); *// (throws \\w+|[-\\w]+)(:.*)?");
  private static final String NEW = "NearWords x = new NearWords();";

  public static void main(String[] args) throws Exception {
    Checks checks = new Checks();
    String readme = Files.readString(Path.of("README.md"));
    Matcher examples = EXAMPLE.matcher(readme);
    int played = 0;
    for (; examples.find(); played++) {
      play(checks, examples.group(1));
    }
    checks.due("there are examples", played > 0, true);
    tellsOfEachCall(checks, readme);
    checks.finish();
  }

  private static void play(Checks checks, String example) throws Exception {
    NearWords x = null;
    for (String line : example.split("\n")) {
      Matcher call = CALL.matcher(line);
      if (line.equals(NEW)) {
        x = new NearWords();
      } else if (x != null && call.matches()) {
        checks.due(line, answer(x, call.group(1), numbers(call.group(2))), call.group(3).replace("NONE", "-1"));
      } else {
        checks.due("a line of an example that can be played: " + line, false, true);
      }
    }
  }

  private static Object[] numbers(String list) {
    return list.isEmpty() ? new Object[0] : Arrays.stream(list.split(", ")).map(Integer::decode).toArray();
  }

  private static String answer(NearWords x, String name, Object[] numbers) throws Exception {
    Class<?>[] types = new Class<?>[numbers.length];
    Arrays.fill(types, int.class);
    try {
      return String.valueOf(NearWords.class.getMethod(name, types).invoke(x, numbers));
    } catch (InvocationTargetException e) {
      return "throws " + e.getCause().getClass().getSimpleName();
    }
  }

  /** A row of a table begins with the call and its arguments. */
  private static void tellsOfEachCall(Checks checks, String readme) {
    for (Method m : NearWords.class.getDeclaredMethods()) {
      if (Modifier.isPublic(m.getModifiers())) {
        String arguments = m.getParameterCount() == 0 ? "" : "\\w+(, \\w+){" + (m.getParameterCount() - 1) + "}";
        Pattern row = Pattern.compile("^\\| `" + m.getName() + "\\(" + arguments + "\\)` \\|", Pattern.MULTILINE);
        checks.due("README.md tells of " + m, row.matcher(readme).find(), true);
      }
    }
  }
}
