import java.lang.management.ManagementFactory;
import java.util.NoSuchElementException;

/** All room is taken when an object is made, and little of it; calls take none, however much they search. */
public final class RoomTest {
  private static final com.sun.management.ThreadMXBean THREADS =
      (com.sun.management.ThreadMXBean) ManagementFactory.getThreadMXBean();
  private static final int OBJECTS = 100;

  public static void main(String[] args) {
    Checks checks = new Checks();
    NearWords warm = full();
    askAll(warm, 0);
    taken();
    NearWords[] made = new NearWords[OBJECTS];
    long before = taken();
    for (int i = 0; i < OBJECTS; i++) {
      made[i] = new NearWords();
    }
    long each = (taken() - before) / OBJECTS;
    checks.due("a new object of " + each + " bytes is small", each < 20000, true);
    NearWords x = full();
    before = taken();
    int sum = 0;
    for (int i = 0; i < 20; i++) {
      sum += askAll(x, i);
    }
    long spent = taken() - before;
    checks.due("calls took " + spent + " bytes (" + sum + ")", spent < 10000, true);
    checks.finish();
  }

  private static long taken() {
    return THREADS.getThreadAllocatedBytes(Thread.currentThread().getId());
  }

  private static NearWords full() {
    NearWords x = new NearWords();
    String signs = "abdcacbdbbacddacbadcabcdbdacadbbcadcbacdbacddabcabdcbadbc";
    for (int w = 0; w < 8; w++) {
      Checks.word(x, signs.substring(w * 6, w * 6 + 7));
    }
    for (int t = 0; t < 5; t++) {
      Checks.text(x, signs.substring(t * 7, t * 7 + 24));
    }
    return x;
  }

  private static int askAll(NearWords x, int i) {
    x.cost(i % 4, (i + 1) % 4, 1 + i % 9);
    x.swap(i % 10);
    x.drop(1 + i % 9);
    x.gap(i % 3);
    x.part(i % 8, i % 3);
    x.feed(0x61626364, 0x61626364, i, i, i);
    x.end(7);
    int sum = x.from(0) + x.apart(0, 1) + x.edits(1, 2) + x.of(3, 3) + x.count(2);
    x.feed(0x61626364, 0x61626364, i, i, i);
    x.end(8);
    sum += x.editsFrom(0) + x.centre() + x.centreAt(3) + x.without(2) + x.leftOut(2) + x.within(9);
    sum += x.lettersAt(9, 2) + x.core(2) + x.coreSet(3) + x.cover(4) + x.centres(2) + x.middle();
    sum += x.middleLength() + x.middleAt(1) + x.median() + x.medianAt(6) + x.medians();
    for (int m = 1; m <= 6; m++) {
      sum += x.motif(m) + x.motifAt(m, 0) + place(x, m);
    }
    return sum;
  }

  private static int place(NearWords x, int m) {
    try {
      return x.motifIn(m, 4);
    } catch (NoSuchElementException e) {
      return 0;
    }
  }
}
