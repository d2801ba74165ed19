import java.lang.management.ManagementFactory;

/** "An object is used for at most 512 calls": objects that are used for all of them. */
public final class LongRunsTest {
  private static final int CALLS = 512;
  /** What Scenes.full calls: 16 times hang and tie, 6 times call and read and read, pass, 30 times untie. */
  private static final int CALLS_OF_FULL = 2 * 16 + 3 * 6 + 1 + 30;
  /** Bytes for all that a run makes. The room of a run, 7.3 million fields and elements, is far greater. */
  private static final long ROOM = 200_000;

  private final Checks checks = new Checks("LongRunsTest");

  public static void main(String[] args) {
    LongRunsTest test = new LongRunsTest();
    test.looksChangeNothing();
    test.years();
    test.ties();
    test.readings();
    test.disputes();
    test.refusals();
    test.sideBySide();
    test.room();
    test.checks.end();
  }

  private interface Look {
    long made(KnotArchive x);
  }

  private static final String[] NAMES = {"cord", "place", "remembers", "trust", "untying", "count", "fades", "amends",
      "weighs", "line", "mean", "digest"};
  private static final Look[] LOOKS = {x -> x.cord(0, 3), x -> x.place(15, 3, 1), x -> x.remembers(5, 15, 0),
      x -> x.trust(5), x -> x.untying(29, 4), x -> x.count(6), x -> x.fades(0, 50), x -> x.amends(4), x -> x.weighs(),
      x -> x.line(15), x -> (long) (x.mean() * 720720), x -> x.digest()};

  /** Each look again and again, in a full archive: it answers the same, and nothing is changed. */
  private void looksChangeNothing() {
    for (int look = 0; look < LOOKS.length; look++) {
      KnotArchive x = Scenes.full();
      long before = x.digest();
      long first = LOOKS[look].made(x);
      long last = first;
      for (int call = CALLS_OF_FULL + 3; call < CALLS && last == first; call++) {
        last = LOOKS[look].made(x);
      }
      checks.due(NAMES[look] + ", again and again", last, first);
      checks.due(NAMES[look] + ", the 512th call: digest()", x.digest(), before);
    }
  }

  /** The latest year that there can be, and one untying and one reading just before it. */
  private void years() {
    KnotArchive x = Scenes.single(4, 9999);
    x.call();
    int lost = 0;
    for (int call = 0; call < 504; call++) {
      lost += x.pass(50);
    }
    checks.due("all knots are lost", lost, 36);
    x.tie(0, 2);
    x.untie(0, 0, 3, 1);
    checks.due("504 times 50: read(0, 0)", x.read(0, 0), 1);
    checks.due("504 times 50: remembers(0, 0, 1)", x.remembers(0, 0, 1), 25200);
    checks.due("504 times 50: untying(0, 4)", x.untying(0, 4), 25200);
  }

  private void ties() {
    KnotArchive x = Scenes.beside(16, 0);
    int wrong = 0;
    for (int call = 0; call < 480; call++) {
      int before = call < 16 ? 0 : (call - 16) * 20;
      wrong += x.tie(call % 16, call * 20) == before ? 0 : 1;
    }
    checks.due("480 times tied", wrong, 0);
    checks.due("480 times tied: cord(15, 2)", x.cord(15, 2), 9580);
    checks.due("480 times tied: cord(0, 2)", x.cord(0, 2), 9280);
  }

  private void readings() {
    KnotArchive x = Scenes.beside(1, 6);
    for (int call = 0; call < 249; call++) {
      x.tie(0, call);
      x.read(call % 6, 0);
    }
    for (int witness = 0; witness < 6; witness++) {
      int last = 248 - Math.floorMod(248 - witness, 6);
      checks.due("remembers(" + witness + ", 0, 0)", x.remembers(witness, 0, 0), last);
    }
  }

  private void disputes() {
    KnotArchive x = Scenes.beside(1, 3);
    Scenes.readAs(x, 0, 0, 5);
    Scenes.readAs(x, 1, 0, 6);
    Scenes.readAs(x, 2, 0, 6);
    int others = 0;
    for (int call = 10; call < CALLS - 3; call++) {
      others += x.dispute(0) == 6 ? 0 : 1;
    }
    checks.due("told other than 6", others, 0);
    checks.due("trust(0)", x.trust(0), 0);
    checks.due("trust(1)", x.trust(1), 20);
    checks.due("trust(2)", x.trust(2), 20);
  }

  /** What is refused again and again does not fill anything. */
  private void refusals() {
    KnotArchive x = Scenes.beside(1, 1);
    int refused = 0;
    for (int call = 0; call < 250; call++) {
      refused += thrown(() -> x.untie(0, 0, 0, 1)) + thrown(() -> x.hang(1, 0));
    }
    checks.due("500 calls refused", refused, 500);
    checks.due("hang(0, 0)", x.hang(0, 0), 1);
    checks.due("call()", x.call(), 1);
    checks.due("tie(1, 9)", x.tie(1, 9), 0);
    checks.due("untie(1, 1, 3, 9)", x.untie(1, 1, 3, 9), 0);
    checks.due("untying(0, 3)", x.untying(0, 3), 9);
  }

  private static int thrown(Runnable call) {
    try {
      call.run();
      return 0;
    } catch (IllegalStateException | IndexOutOfBoundsException e) {
      return 1;
    }
  }

  /** Objects share nothing: two with the same calls, between which a third is used, answer the same. */
  private void sideBySide() {
    KnotArchive one = new KnotArchive();
    KnotArchive other = new KnotArchive();
    KnotArchive between = Scenes.full();
    for (int i = 0; i < 16; i++) {
      one.hang(i - 1, i % 5);
      between.tie(i, 1111);
      other.hang(i - 1, i % 5);
      one.tie(i, 600 * i);
      between.mend(15 - i);
      between.fades(0, 50);
      other.tie(i, 600 * i);
      one.pass(i + 1);
      between.pass(50);
      other.pass(i + 1);
      checks.due("side by side: weighs()", one.weighs(), other.weighs());
      between.weighs();
      checks.due("side by side: cord(0, 3)", one.cord(0, 3), other.cord(0, 3));
      between.dispute(15);
      checks.due("side by side: digest()", one.digest(), other.digest());
    }
  }

  /** A run of the calls that could make the most, and of all that fills rows, makes little. */
  private void room() {
    com.sun.management.ThreadMXBean threads =
        (com.sun.management.ThreadMXBean) ManagementFactory.getThreadMXBean();
    if (!threads.isThreadAllocatedMemorySupported()) {
      return;
    }
    long least = Long.MAX_VALUE;
    // The first time, what is made for the loading of classes is counted too.
    for (int time = 0; time < 3; time++) {
      long before = threads.getCurrentThreadAllocatedBytes();
      KnotArchive x = Scenes.full();
      for (int call = CALLS_OF_FULL; call < CALLS; call++) {
        LOOKS[call % LOOKS.length].made(x);
      }
      least = Math.min(least, threads.getCurrentThreadAllocatedBytes() - before);
    }
    checks.holds("a run makes " + least + " bytes, at most " + ROOM + " are due", least <= ROOM);
    for (int look = 0; look < LOOKS.length; look++) {
      KnotArchive x = Scenes.full();
      long before = threads.getCurrentThreadAllocatedBytes();
      for (int call = CALLS_OF_FULL; call < CALLS; call++) {
        LOOKS[look].made(x);
      }
      long made = threads.getCurrentThreadAllocatedBytes() - before;
      checks.holds(NAMES[look] + " makes " + made + " bytes, at most " + ROOM + " are due", made <= ROOM);
    }
  }
}
