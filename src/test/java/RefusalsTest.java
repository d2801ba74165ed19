import java.util.function.IntSupplier;

/**
 * "A method that throws an exception changes nothing. If several exceptions apply, the one that is named first is
 * thrown.": each call that is refused, in a full archive, with each mix of wrong arguments and bounds that are met.
 */
public final class RefusalsTest {
  private static final int[] NO_CORD = {Integer.MIN_VALUE, -1, 16, Integer.MAX_VALUE};
  private static final int[] NO_WITNESS = {Integer.MIN_VALUE, -1, 6, Integer.MAX_VALUE};
  private static final int[] NO_PLACE = {Integer.MIN_VALUE, -1, 4, Integer.MAX_VALUE};
  private static final int[] NO_KNOTS = {Integer.MIN_VALUE, 0, 10, Integer.MAX_VALUE};
  private static final int[] NO_STRAND = {Integer.MIN_VALUE, -1, 5, Integer.MAX_VALUE};
  private static final int[] NO_YEARS = {Integer.MIN_VALUE, 0, 51, Integer.MAX_VALUE};
  private static final int[] NO_NUMBER = {Integer.MIN_VALUE, -1, 10000, Integer.MAX_VALUE};
  private static final int[] NO_WHAT = {Integer.MIN_VALUE, -1, 8, Integer.MAX_VALUE};

  private final Checks checks = new Checks("RefusalsTest");

  public static void main(String[] args) {
    RefusalsTest test = new RefusalsTest();
    test.hangFull();
    test.hangSixAlone();
    test.tie();
    test.untieFull();
    test.untieTooMany();
    test.untieTooManyOfThirty();
    test.looksAtCords();
    test.looksAtWitnesses();
    test.dispute();
    test.years();
    test.refusedThenGranted();
    test.checks.end();
  }

  /** Each time, a full archive of its own is asked: what one refusal might change, the next cannot hide. */
  private interface Call {
    int made(KnotArchive x);
  }

  private void index(String name, Call call) {
    KnotArchive x = Scenes.full();
    checks.index("full: " + name, x, supplied(x, call));
  }

  private void argument(String name, Call call) {
    KnotArchive x = Scenes.full();
    checks.argument("full: " + name, x, supplied(x, call));
  }

  private void state(String name, Call call) {
    KnotArchive x = Scenes.full();
    checks.state("full: " + name, x, supplied(x, call));
  }

  private static IntSupplier supplied(KnotArchive x, Call call) {
    return () -> call.made(x);
  }

  /** No such cord, then no strand, then 16 cords or 6 that hang from it. */
  private void hangFull() {
    for (int from : new int[] {Integer.MIN_VALUE, -2, 16, Integer.MAX_VALUE}) {
      index("hang(" + from + ", 0)", x -> x.hang(from, 0));
      for (int strand : NO_STRAND) {
        index("hang(" + from + ", " + strand + ")", x -> x.hang(from, strand));
      }
    }
    for (int from : new int[] {-1, 0, 1, 15}) {
      for (int strand : NO_STRAND) {
        argument("hang(" + from + ", " + strand + ")", x -> x.hang(from, strand));
      }
      state("hang(" + from + ", 0)", x -> x.hang(from, 0));
      state("hang(" + from + ", 4)", x -> x.hang(from, 4));
    }
  }

  /** The same, with 6 that hang from it alone: not 16 cords yet. */
  private void hangSixAlone() {
    KnotArchive x = Scenes.bundled(0, 1, 2, 3, 4, 5, 6);
    for (int strand : NO_STRAND) {
      checks.argument("6 at it: hang(0, " + strand + ")", x, () -> x.hang(0, strand));
      checks.index("6 at it: hang(7, " + strand + ")", x, () -> x.hang(7, strand));
    }
    for (int strand = 0; strand <= 4; strand++) {
      int one = strand;
      checks.state("6 at it: hang(0, " + strand + ")", x, () -> x.hang(0, one));
    }
    checks.due("not 16 yet: hang(-1, 4)", x.hang(-1, 4), 7);
  }

  /** No such cord, then no number. */
  private void tie() {
    for (int cord : NO_CORD) {
      index("tie(" + cord + ", 0)", x -> x.tie(cord, 0));
      index("mend(" + cord + ")", x -> x.mend(cord));
      for (int number : NO_NUMBER) {
        index("tie(" + cord + ", " + number + ")", x -> x.tie(cord, number));
      }
    }
    for (int number : NO_NUMBER) {
      argument("tie(0, " + number + ")", x -> x.tie(0, number));
      argument("tie(15, " + number + ")", x -> x.tie(15, number));
    }
  }

  /** No such witness, cord or place, then no number of knots, then not so many there or 30 untyings. */
  private void untieFull() {
    for (int knots : new int[] {1, 9, Integer.MIN_VALUE, 0, 10, Integer.MAX_VALUE}) {
      for (int witness : NO_WITNESS) {
        index("untie(" + witness + ", 0, 0, " + knots + ")", x -> x.untie(witness, 0, 0, knots));
      }
      for (int cord : NO_CORD) {
        index("untie(0, " + cord + ", 0, " + knots + ")", x -> x.untie(0, cord, 0, knots));
      }
      for (int place : NO_PLACE) {
        index("untie(0, 0, " + place + ", " + knots + ")", x -> x.untie(0, 0, place, knots));
      }
    }
    for (int knots : NO_KNOTS) {
      argument("untie(5, 15, 3, " + knots + ")", x -> x.untie(5, 15, 3, knots));
    }
    state("untie(0, 0, 0, 1)", x -> x.untie(0, 0, 0, 1));
    state("untie(5, 15, 3, 1)", x -> x.untie(5, 15, 3, 1));
  }

  /** The same, with knots that are not there alone: not 30 untyings yet. */
  private void untieTooMany() {
    KnotArchive x = Scenes.beside(1, 1);
    x.tie(0, 9090);
    x.pass(2);
    for (int knots : NO_KNOTS) {
      checks.argument("none there: untie(0, 0, 1, " + knots + ")", x, () -> x.untie(0, 0, 1, knots));
      checks.index("none there: untie(1, 0, 1, " + knots + ")", x, () -> x.untie(1, 0, 1, knots));
      checks.index("none there: untie(0, 1, 1, " + knots + ")", x, () -> x.untie(0, 1, 1, knots));
    }
    checks.index("none there: untie(1, 0, 1, 1)", x, () -> x.untie(1, 0, 1, 1));
    checks.index("none there: untie(0, 1, 1, 1)", x, () -> x.untie(0, 1, 1, 1));
    checks.state("none there: untie(0, 0, 1, 1)", x, () -> x.untie(0, 0, 1, 1));
    checks.state("none there: untie(0, 0, 3, 9)", x, () -> x.untie(0, 0, 3, 9));
    checks.due("nine there: untie(0, 0, 2, 9)", x.untie(0, 0, 2, 9), 9000);
  }

  /** Both bounds at once: not so many there, and 30 untyings. */
  private void untieTooManyOfThirty() {
    for (int knots = 1; knots <= 9; knots++) {
      int one = knots;
      KnotArchive x = Scenes.full();
      x.tie(0, 0);
      checks.state("30, and none there: untie(0, 0, 0, " + knots + ")", x, () -> x.untie(0, 0, 0, one));
    }
  }

  private void looksAtCords() {
    for (int cord : NO_CORD) {
      index("cord(" + cord + ", 0)", x -> x.cord(cord, 0));
      index("cord(" + cord + ", 8)", x -> x.cord(cord, 8));
      index("place(" + cord + ", 0, 0)", x -> x.place(cord, 0, 0));
      index("place(" + cord + ", 4, 2)", x -> x.place(cord, 4, 2));
      index("amends(" + cord + ")", x -> x.amends(cord));
      index("line(" + cord + ")", x -> x.line(cord));
    }
    for (int what : NO_WHAT) {
      index("cord(0, " + what + ")", x -> x.cord(0, what));
      index("place(15, 3, " + what + ")", x -> x.place(15, 3, what));
      index("count(" + what + ")", x -> x.count(what));
    }
    index("place(0, 0, 2)", x -> x.place(0, 0, 2));
    for (int place : NO_PLACE) {
      index("place(0, " + place + ", 0)", x -> x.place(0, place, 0));
    }
  }

  private void looksAtWitnesses() {
    state("call()", x -> x.call());
    for (int witness : NO_WITNESS) {
      index("read(" + witness + ", 0)", x -> x.read(witness, 0));
      index("remembers(" + witness + ", 0, 0)", x -> x.remembers(witness, 0, 0));
      index("trust(" + witness + ")", x -> x.trust(witness));
    }
    for (int cord : NO_CORD) {
      index("read(0, " + cord + ")", x -> x.read(0, cord));
      index("remembers(0, " + cord + ", 0)", x -> x.remembers(0, cord, 0));
    }
    for (int what : NO_WHAT) {
      index("remembers(5, 15, " + what + ")", x -> x.remembers(5, 15, what));
      index("untying(29, " + what + ")", x -> x.untying(29, what));
    }
    index("remembers(0, 0, 3)", x -> x.remembers(0, 0, 3));
    index("untying(0, 5)", x -> x.untying(0, 5));
    for (int untying : new int[] {Integer.MIN_VALUE, -1, 30, Integer.MAX_VALUE}) {
      index("untying(" + untying + ", 0)", x -> x.untying(untying, 0));
    }
  }

  /** No such cord, then no witness who remembers it. */
  private void dispute() {
    for (int cord : NO_CORD) {
      index("dispute(" + cord + ")", x -> x.dispute(cord));
    }
    for (int cord = 6; cord < 15; cord++) {
      int one = cord;
      state("nobody read it: dispute(" + cord + ")", x -> x.dispute(one));
    }
  }

  /** No such cord, then no years. */
  private void years() {
    for (int years : NO_YEARS) {
      argument("pass(" + years + ")", x -> x.pass(years));
      argument("fades(0, " + years + ")", x -> x.fades(0, years));
      argument("fades(15, " + years + ")", x -> x.fades(15, years));
      for (int cord : NO_CORD) {
        index("fades(" + cord + ", " + years + ")", x -> x.fades(cord, years));
      }
    }
    for (int cord : NO_CORD) {
      index("fades(" + cord + ", 1)", x -> x.fades(cord, 1));
    }
  }

  /** What is refused leaves no trace in what is granted behind it. */
  private void refusedThenGranted() {
    KnotArchive x = Scenes.beside(1, 1);
    KnotArchive y = Scenes.beside(1, 1);
    checks.argument("hang(0, 5)", x, () -> x.hang(0, 5));
    checks.state("untie(0, 0, 0, 1)", x, () -> x.untie(0, 0, 0, 1));
    checks.state("dispute(0)", x, () -> x.dispute(0));
    checks.argument("tie(0, 10000)", x, () -> x.tie(0, 10000));
    checks.argument("pass(51)", x, () -> x.pass(51));
    checks.argument("fades(0, 51)", x, () -> x.fades(0, 51));
    for (KnotArchive one : new KnotArchive[] {x, y}) {
      one.tie(0, 2345);
      one.tie(one.hang(0, 3), 10);
      one.pass(4);
      one.read(one.call(), 0);
      one.untie(1, 0, 1, 2);
      one.dispute(0);
    }
    checks.due("with refusals and without: digest()", x.digest(), y.digest());
    checks.due("with refusals and without: untying(0, 3)", x.untying(0, 3), 2);
  }
}
