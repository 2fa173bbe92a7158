import java.lang.reflect.InvocationTargetException;
import java.lang.reflect.Method;
import java.util.ArrayList;
import java.util.List;
import java.util.Random;

/** Runs of calls drawn by a fixed seed, on a NearWords and on the Oracle: all answers are to be alike. */
public final class RandomRunTest {
  private static final int[] WILD = {Integer.MIN_VALUE, -2, -1, 0, 1, 64, 100, Integer.MAX_VALUE - 1, Integer.MAX_VALUE};
  private static final String[] CHEAP = {
    "letters", "cost", "swap", "drop", "gap", "part", "part", "apart", "from", "edits", "editsFrom", "of", "count",
    "feed", "end", "word", "text"
  };
  private static final String[] SURVEYS = {
    "centre", "centreAt", "without", "leftOut", "within", "lettersAt", "core", "coreSet", "cover", "centres",
    "median", "medianAt", "medians"
  };
  private static final String[] MIDDLES = {"middle", "middleLength", "middleAt"};
  private static final String[] MOTIFS = {"motif", "motifAt", "motifIn"};

  private final Random random;
  private final NearWords real = new NearWords();
  private final Oracle plain = new Oracle();
  private final String run;
  private final int length;
  private final List<String> calls = new ArrayList<>();

  private RandomRunTest(int number, int length) {
    random = new Random(number);
    run = "run " + number;
    this.length = length;
  }

  public static void main(String[] args) throws Exception {
    int wrong = 0;
    int number = 0;
    for (int i = 0; i < 400; i++) {
      // Few letters and short words for most runs, since the oracle looks at every row for every call.
      int letters = i % 10 == 0 ? 4 : i % 3 == 0 ? 3 : 2;
      int length = letters == 2 ? 1 + i % 7 : letters == 3 ? 1 + i % 4 : 1 + i / 10 % 4;
      wrong += new RandomRunTest(number++, length).play(letters, 120, letters == 4 ? 0 : letters == 3 ? 2 : 6);
    }
    for (int i = 0; i < 12; i++) {
      wrong += new RandomRunTest(number++, 3 + i % 5).play(4, 24, 3);
    }
    System.out.println(wrong + " runs went wrong of " + number);
    if (wrong > 0) {
      System.exit(1);
    }
  }

  /** Plays a run until an answer is wrong: how many were. */
  private int play(int letters, int most, int percentOfMiddles) throws Exception {
    call("letters", letters);
    for (int a = 0; a < 4; a++) {
      for (int b = 0; b < a; b++) {
        if (random.nextInt(3) > 0) {
          call("cost", a, b, 1 + random.nextInt(random.nextBoolean() ? 3 : 9));
        }
      }
    }
    if (random.nextInt(3) > 0) {
      call("swap", random.nextInt(random.nextBoolean() ? 4 : 10));
    }
    int words = random.nextInt(9);
    for (int i = 0; i < words; i++) {
      bring(length, "word");
    }
    int texts = random.nextInt(4);
    for (int i = 0; i < texts; i++) {
      bring(1 + random.nextInt(letters == 4 ? 10 : 24), "text");
    }
    for (int i = 0; i < most; i++) {
      int dice = random.nextInt(100);
      String[] kind = dice < percentOfMiddles ? MIDDLES : dice < 40 ? CHEAP : dice < 88 ? SURVEYS : MOTIFS;
      if (!step(kind[random.nextInt(kind.length)])) {
        return 1;
      }
    }
    return 0;
  }

  private boolean step(String name) throws Exception {
    switch (name) {
      case "word":
        return bring(random.nextInt(8) == 0 ? random.nextInt(10) : length, name);
      case "text":
        return bring(random.nextInt(4) == 0 ? random.nextInt(28) : 6, name);
      case "from":
        return bring(random.nextInt(8) == 0 ? random.nextInt(10) : length, name, near(9));
      case "editsFrom":
        return bring(random.nextInt(10), name, near(9));
      case "feed":
        return call(name, bytes(), bytes(), bytes(), bytes(), bytes());
      case "cost":
        return call(name, near(4), near(4), near(10));
      case "gap":
      case "within":
      case "core":
      case "coreSet":
      case "cover":
        return call(name, random.nextInt(3) == 0 ? near(64) : near(9));
      case "lettersAt":
        return call(name, near(12), near(length + 1));
      case "part":
        return call(name, near(8), near(3));
      case "apart":
      case "edits":
      case "of":
        return call(name, near(8), near(8));
      case "motifAt":
      case "motifIn":
        return call(name, near(7), near(6));
      case "count":
        return call(name, near(16));
      case "end":
        return call(name, near(41));
      case "centre":
      case "median":
      case "medians":
      case "middle":
      case "middleLength":
        return call(name);
      default:
        return call(name, near(10));
    }
  }

  private int near(int behind) {
    return random.nextInt(12) == 0 ? WILD[random.nextInt(WILD.length)] : random.nextInt(behind);
  }

  private int bytes() {
    int four = 0;
    for (int i = 0; i < 4; i++) {
      four = four << 8 | (random.nextInt(30) == 0 ? random.nextInt(256) : 'a' + random.nextInt(plain.letters));
    }
    return four;
  }

  /** Puts so many letters (mostly) on the TAPE and calls what takes them. */
  private boolean bring(int size, String name, int... args) throws Exception {
    return call("feed", bytes(), bytes(), bytes(), bytes(), bytes())
        && (size <= 20 || call("feed", bytes(), bytes(), bytes(), bytes(), bytes()))
        && call("end", size)
        && call(name, args)
        && call("count", 8);
  }

  private boolean call(String name, int... args) throws Exception {
    String real = answer(this.real, name, args);
    String plain = answer(this.plain, name, args);
    calls.add(name + java.util.Arrays.toString(args) + " " + plain);
    if (real.equals(plain)) {
      return true;
    }
    System.out.println(run + ": answered " + real + " at the end of " + calls);
    return false;
  }

  private static String answer(Object object, String name, int... args) throws Exception {
    Class<?>[] types = new Class<?>[args.length];
    Object[] values = new Object[args.length];
    for (int i = 0; i < args.length; i++) {
      types[i] = int.class;
      values[i] = args[i];
    }
    Method method = object.getClass().getDeclaredMethod(name, types);
    try {
      return String.valueOf(method.invoke(object, values));
    } catch (InvocationTargetException e) {
      return "throws " + e.getCause().getClass().getName();
    }
  }
}
