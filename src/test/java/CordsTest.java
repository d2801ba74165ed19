/** Promises 1 to 7: what hangs, and what knots tell. */
public final class CordsTest {
  private static final Class<IndexOutOfBoundsException> INDEX = IndexOutOfBoundsException.class;
  private static final Class<IllegalArgumentException> ARGUMENT = IllegalArgumentException.class;
  private static final Class<IllegalStateException> STATE = IllegalStateException.class;

  private static final int[] FAR = {Integer.MIN_VALUE, -2, 16, 17, Integer.MAX_VALUE};

  private final Checks checks = new Checks("CordsTest");

  public static void main(String[] args) {
    CordsTest test = new CordsTest();
    test.newObject();
    test.hang();
    test.hangLimits();
    test.hangRefuses();
    test.tie();
    test.tieRefuses();
    test.untie();
    test.untieLimits();
    test.untieRefuses();
    test.mend();
    test.cord();
    test.strands();
    test.strandsWrapAround();
    test.cordAgrees();
    test.place();
    test.checks.end();
  }

  // Promise 1

  private void newObject() {
    KnotArchive x = new KnotArchive();
    for (int what = 0; what < 8; what++) {
      checks.due("new: count(" + what + ")", x.count(what), 0);
    }
    checks.due("new: weighs()", x.weighs(), -1);
    checks.dueDouble("new: mean()", x.mean(), 0);
    checks.refused("new: cord(0, 0)", x, INDEX, () -> x.cord(0, 0));
    checks.refused("new: trust(0)", x, INDEX, () -> x.trust(0));
    checks.refused("new: untying(0, 0)", x, INDEX, () -> x.untying(0, 0));
    KnotArchive other = new KnotArchive();
    other.hang(-1, 0);
    other.call();
    checks.due("an object of its own: count(1)", x.count(1), 0);
    checks.due("an object of its own: count(2)", x.count(2), 0);
  }

  // Promise 2

  private void hang() {
    KnotArchive x = new KnotArchive();
    checks.due("hang(-1, 3)", x.hang(-1, 3), 0);
    checks.due("hang(0, 0)", x.hang(0, 0), 1);
    checks.due("hang(0, 4)", x.hang(0, 4), 2);
    checks.due("hang(2, 1)", x.hang(2, 1), 3);
    checks.due("hang(-1, 2)", x.hang(-1, 2), 4);
    int[] froms = {-1, 0, 0, 2, -1};
    int[] strands = {3, 0, 4, 1, 2};
    for (int cord = 0; cord < 5; cord++) {
      checks.due("hung: cord(" + cord + ", 0)", x.cord(cord, 0), froms[cord]);
      checks.due("hung: cord(" + cord + ", 1)", x.cord(cord, 1), strands[cord]);
      checks.due("hung: cord(" + cord + ", 2)", x.cord(cord, 2), 0);
      checks.due("hung: cord(" + cord + ", 7)", x.cord(cord, 7), 0);
    }
    checks.due("hung: count(1)", x.count(1), 5);
  }

  private void hangLimits() {
    KnotArchive x = new KnotArchive();
    x.hang(-1, 0);
    for (int cord = 1; cord <= 6; cord++) {
      checks.due("6 at one: hang(0, 0)", x.hang(0, 0), cord);
    }
    checks.refused("7 at one: hang(0, 0)", x, STATE, () -> x.hang(0, 0));
    checks.refused("7 at one: hang(0, 5)", x, ARGUMENT, () -> x.hang(0, 5));
    checks.due("6 at one: hang(6, 0)", x.hang(6, 0), 7);
    // The bound of 6 is one of cords, and the beam is none.
    for (int cord = 8; cord < 16; cord++) {
      checks.due("at the beam: hang(-1, 0)", x.hang(-1, 0), cord);
    }
    checks.refused("16 cords: hang(-1, 0)", x, STATE, () -> x.hang(-1, 0));
    checks.refused("16 cords: hang(15, 0)", x, STATE, () -> x.hang(15, 0));
    checks.refused("16 cords: hang(-1, 5)", x, ARGUMENT, () -> x.hang(-1, 5));
    checks.refused("16 cords: hang(16, 0)", x, INDEX, () -> x.hang(16, 0));
    checks.due("16 cords: count(1)", x.count(1), 16);
    checks.due("16 cords: cord(0, 5)", x.cord(0, 5), 6);
  }

  private void hangRefuses() {
    KnotArchive x = new KnotArchive();
    checks.refused("no cord: hang(0, 0)", x, INDEX, () -> x.hang(0, 0));
    x.hang(-1, 0);
    checks.refused("hang(1, 0)", x, INDEX, () -> x.hang(1, 0));
    for (int from : FAR) {
      checks.refused("hang(" + from + ", 0)", x, INDEX, () -> x.hang(from, 0));
      checks.refused("hang(" + from + ", 9)", x, INDEX, () -> x.hang(from, 9));
    }
    for (int strand : new int[] {Integer.MIN_VALUE, -1, 5, Integer.MAX_VALUE}) {
      checks.refused("hang(0, " + strand + ")", x, ARGUMENT, () -> x.hang(0, strand));
      checks.refused("hang(-1, " + strand + ")", x, ARGUMENT, () -> x.hang(-1, strand));
    }
  }

  // Promise 3

  private void tie() {
    KnotArchive x = new KnotArchive();
    x.hang(-1, 0);
    x.hang(-1, 0);
    checks.due("tie(0, 7305)", x.tie(0, 7305), 0);
    int[] knots = {7, 3, 0, 5};
    for (int place = 0; place < 4; place++) {
      checks.due("7305: place(0, " + place + ", 0)", x.place(0, place, 0), knots[place]);
    }
    checks.due("7305: cord(0, 2)", x.cord(0, 2), 7305);
    x.pass(4);
    checks.due("frayed: cord(0, 7)", x.cord(0, 7), 12);
    checks.due("tie(0, 9999)", x.tie(0, 9999), 7305);
    checks.due("tied anew: cord(0, 7)", x.cord(0, 7), 0);
    checks.due("tie(0, 0)", x.tie(0, 0), 9999);
    checks.due("tie(0, 12)", x.tie(0, 12), 0);
    checks.due("12: place(0, 2, 0)", x.place(0, 2, 0), 1);
    checks.due("12: place(0, 3, 0)", x.place(0, 3, 0), 2);
    checks.due("another cord: cord(1, 2)", x.cord(1, 2), 0);
    x.pass(3);
    x.tie(1, 5);
    checks.due("another cord's frays stay: cord(0, 7)", x.cord(0, 7), 6);
    // Ties the same number: its frays are gone all the same.
    checks.due("tie(0, 12) again", x.tie(0, 12), 12);
    checks.due("tied again: cord(0, 7)", x.cord(0, 7), 0);
  }

  private void tieRefuses() {
    KnotArchive x = new KnotArchive();
    checks.refused("no cord: tie(0, 1)", x, INDEX, () -> x.tie(0, 1));
    x.hang(-1, 0);
    x.tie(0, 1234);
    x.pass(3);
    for (int cord : FAR) {
      checks.refused("tie(" + cord + ", 1)", x, INDEX, () -> x.tie(cord, 1));
    }
    checks.refused("tie(1, -1)", x, INDEX, () -> x.tie(1, -1));
    checks.refused("tie(-1, 1)", x, INDEX, () -> x.tie(-1, 1));
    for (int number : new int[] {Integer.MIN_VALUE, -1, 10000, Integer.MAX_VALUE}) {
      checks.refused("tie(0, " + number + ")", x, ARGUMENT, () -> x.tie(0, number));
    }
  }

  // Promise 4

  private void untie() {
    KnotArchive x = new KnotArchive();
    x.hang(-1, 0);
    x.call();
    x.call();
    x.tie(0, 9451);
    x.pass(3);
    checks.due("untie(1, 0, 0, 9)", x.untie(1, 0, 0, 9), 451);
    checks.due("untie(0, 0, 1, 1)", x.untie(0, 0, 1, 1), 351);
    checks.due("untie(1, 0, 3, 1)", x.untie(1, 0, 3, 1), 350);
    checks.due("untied: place(0, 0, 0)", x.place(0, 0, 0), 0);
    checks.due("untied: place(0, 1, 0)", x.place(0, 1, 0), 3);
    // Nothing is said of the frays of a place where knots are untied: they stay, and do not grow without knots.
    checks.due("untied: place(0, 0, 1)", x.place(0, 0, 1), 3);
    checks.due("untied: place(0, 1, 1)", x.place(0, 1, 1), 3);
    x.pass(2);
    checks.due("a year without knots: place(0, 0, 1)", x.place(0, 0, 1), 3);
    checks.due("a year with knots: place(0, 1, 1)", x.place(0, 1, 1), 5);
    checks.due("untied: count(4)", x.count(4), 3);
    checks.due("untied are not lost: count(7)", x.count(7), 0);
  }

  private void untieLimits() {
    KnotArchive x = new KnotArchive();
    x.hang(-1, 0);
    x.call();
    for (int i = 0; i < 30; i++) {
      x.tie(0, 9999);
      checks.due("untying " + i, x.untie(0, 0, i % 4, 9), 9999 - 9 * new int[] {1000, 100, 10, 1}[i % 4]);
    }
    x.tie(0, 9999);
    checks.refused("the 31st: untie(0, 0, 0, 1)", x, STATE, () -> x.untie(0, 0, 0, 1));
    checks.refused("the 31st: untie(0, 0, 0, 0)", x, ARGUMENT, () -> x.untie(0, 0, 0, 0));
    checks.refused("the 31st: untie(1, 0, 0, 1)", x, INDEX, () -> x.untie(1, 0, 0, 1));
    checks.due("30 untyings: count(4)", x.count(4), 30);
    checks.due("30 untyings: untying(29, 2)", x.untying(29, 2), 1);
    checks.refused("30 untyings: untying(30, 0)", x, INDEX, () -> x.untying(30, 0));
  }

  private void untieRefuses() {
    KnotArchive x = new KnotArchive();
    x.hang(-1, 0);
    checks.refused("no witness: untie(0, 0, 0, 1)", x, INDEX, () -> x.untie(0, 0, 0, 1));
    x.call();
    x.tie(0, 2034);
    for (int far : new int[] {Integer.MIN_VALUE, -1, 1, 6, 16, Integer.MAX_VALUE}) {
      checks.refused("untie(" + far + ", 0, 0, 1)", x, INDEX, () -> x.untie(far, 0, 0, 1));
      checks.refused("untie(0, " + far + ", 0, 1)", x, INDEX, () -> x.untie(0, far, 0, 1));
    }
    for (int place : new int[] {Integer.MIN_VALUE, -1, 4, Integer.MAX_VALUE}) {
      checks.refused("untie(0, 0, " + place + ", 1)", x, INDEX, () -> x.untie(0, 0, place, 1));
      checks.refused("untie(0, 0, " + place + ", 10)", x, INDEX, () -> x.untie(0, 0, place, 10));
    }
    for (int knots : new int[] {Integer.MIN_VALUE, -1, 0, 10, Integer.MAX_VALUE}) {
      checks.refused("untie(0, 0, 3, " + knots + ")", x, ARGUMENT, () -> x.untie(0, 0, 3, knots));
      checks.refused("untie(0, 0, 1, " + knots + ")", x, ARGUMENT, () -> x.untie(0, 0, 1, knots));
    }
    checks.refused("2 knots: untie(0, 0, 0, 3)", x, STATE, () -> x.untie(0, 0, 0, 3));
    checks.refused("0 knots: untie(0, 0, 1, 1)", x, STATE, () -> x.untie(0, 0, 1, 1));
    checks.due("2 knots: untie(0, 0, 0, 2)", x.untie(0, 0, 0, 2), 34);
  }

  // Promise 5

  private void mend() {
    KnotArchive x = new KnotArchive();
    x.hang(-1, 0);
    x.hang(-1, 2);
    x.tie(0, 1034);
    x.tie(1, 1034);
    checks.due("new knots: mend(0)", x.mend(0), 0);
    x.pass(4);
    checks.due("mend(0)", x.mend(0), 12);
    checks.due("mended: cord(0, 7)", x.cord(0, 7), 0);
    checks.due("mended: cord(0, 2)", x.cord(0, 2), 1034);
    checks.due("mended: mend(0)", x.mend(0), 0);
    checks.due("another cord: cord(1, 7)", x.cord(1, 7), 24);
    // All of them are lost from the cord 1: the only knot of its place 0, and two each of its places 2 and 3.
    checks.due("behind the mending: pass(9)", x.pass(9), 5);
    checks.due("not lost thanks to it: cord(0, 2)", x.cord(0, 2), 1034);
    checks.due("lost without it: cord(1, 2)", x.cord(1, 2), 12);
    for (int cord : FAR) {
      checks.refused("mend(" + cord + ")", x, INDEX, () -> x.mend(cord));
    }
    checks.refused("mend(-1)", x, INDEX, () -> x.mend(-1));
    checks.refused("mend(2)", x, INDEX, () -> x.mend(2));
  }

  // Promise 6

  private void cord() {
    KnotArchive x = new KnotArchive();
    x.hang(-1, 0);
    x.hang(0, 2);
    x.hang(0, 0);
    x.hang(1, 4);
    x.hang(1, 4);
    x.tie(0, 100);
    x.tie(1, 20);
    x.tie(2, 3);
    x.tie(3, 50);
    x.tie(4, 70);
    x.pass(2);
    int[][] due = {
      {-1, 0, 100, 193, 93, 2, 0, 2},
      {0, 2, 20, 90, 70, 2, 0, 4},
      {0, 0, 3, 3, 0, 0, 1, 2},
      {1, 4, 50, 50, 0, 0, 1, 4},
      {1, 4, 70, 70, 0, 0, 1, 4},
    };
    for (int cord = 0; cord < due.length; cord++) {
      for (int what = 0; what < 8; what++) {
        checks.due("cord(" + cord + ", " + what + ")", x.cord(cord, what), due[cord][what]);
      }
    }
    for (int far : new int[] {Integer.MIN_VALUE, -1, 8, Integer.MAX_VALUE}) {
      checks.refused("cord(0, " + far + ")", x, INDEX, () -> x.cord(0, far));
      checks.refused("cord(" + far + ", 0)", x, INDEX, () -> x.cord(far, 0));
    }
    checks.refused("cord(5, 0)", x, INDEX, () -> x.cord(5, 0));
  }

  private void counts(int strand, int want, int... numbers) {
    KnotArchive x = Scenes.bundled(strand, numbers);
    x.tie(0, 5000);
    String call = "strand " + strand + " of " + java.util.Arrays.toString(numbers);
    checks.due(call + ": cord(0, 4)", x.cord(0, 4), want);
    checks.due(call + ": cord(0, 3)", x.cord(0, 3), 5000 + want);
  }

  private void strands() {
    for (int strand = 0; strand < 5; strand++) {
      counts(strand, 0);
      counts(strand, 0, 0);
    }
    counts(0, 7, 7);
    counts(1, 7, 7);
    counts(2, 7, 7);
    counts(3, 1, 7);
    counts(4, 7, 7);
    counts(0, 60, 10, 20, 30);
    counts(1, -40, 10, 20, 30);
    counts(1, 70, 100, 20, 10);
    counts(2, 30, 10, 30, 20);
    counts(2, 30, 30, 10, 20);
    counts(3, 2, 0, 20, 30);
    counts(3, 3, 1, 20, 30);
    counts(3, 0, 0, 0, 0);
    counts(4, 6000, 10, 20, 30);
    counts(4, 0, 10, 0, 30);
  }

  private void strandsWrapAround() {
    KnotArchive product = Scenes.bundled(4, 9999, 9999, 9999);
    checks.due("9999 to the third", product.cord(0, 3), 9999 * 9999 * 9999);
    KnotArchive x = new KnotArchive();
    x.hang(-1, 2);
    for (int i = 0; i < 2; i++) {
      int less = x.hang(0, 1);
      x.tie(x.hang(less, 0), 0);
      x.tie(x.hang(less, 0), 5 + i);
    }
    checks.due("the greatest of -5 and -6", x.cord(0, 4), -5);
    checks.due("said: -5", x.cord(0, 3), -5);
    KnotArchive more = new KnotArchive();
    more.hang(-1, 3);
    more.hang(0, 1);
    more.hang(1, 0);
    more.tie(more.hang(1, 0), 4);
    checks.due("-4 is not more than 0", more.cord(0, 4), 0);
    more.tie(1, 5);
    checks.due("5 - 4 is more than 0", more.cord(0, 4), 1);
  }

  private void cordAgrees() {
    KnotArchive x = Scenes.bundled(0, 4000, 5999);
    checks.due("0 for 9999: cord(0, 6)", x.cord(0, 6), 0);
    x.tie(0, 9999);
    checks.due("9999 for 9999: cord(0, 6)", x.cord(0, 6), 1);
    checks.due("nothing hangs: cord(1, 6)", x.cord(1, 6), 1);
    x.tie(1, 4001);
    checks.due("9999 for 10000: cord(0, 6)", x.cord(0, 6), 0);
    KnotArchive empty = Scenes.bundled(4, 0);
    checks.due("0 for 0: cord(0, 6)", empty.cord(0, 6), 1);
    empty.tie(0, 1);
    checks.due("1 for 0: cord(0, 6)", empty.cord(0, 6), 0);
  }

  // Promise 7

  private void place() {
    KnotArchive x = new KnotArchive();
    x.hang(-1, 0);
    x.hang(-1, 4);
    x.tie(0, 9071);
    x.tie(1, 9071);
    x.pass(3);
    int[] knots = {9, 0, 7, 1};
    for (int place = 0; place < 4; place++) {
      checks.due("place(0, " + place + ", 0)", x.place(0, place, 0), knots[place]);
      checks.due("place(0, " + place + ", 1)", x.place(0, place, 1), knots[place] == 0 ? 0 : 3);
      checks.due("place(1, " + place + ", 1)", x.place(1, place, 1), knots[place] == 0 ? 0 : 6);
    }
    for (int far : new int[] {Integer.MIN_VALUE, -1, 4, Integer.MAX_VALUE}) {
      checks.refused("place(0, " + far + ", 0)", x, INDEX, () -> x.place(0, far, 0));
      checks.refused("place(" + far + ", 0, 0)", x, INDEX, () -> x.place(far, 0, 0));
      checks.refused("place(0, 0, " + far + ")", x, INDEX, () -> x.place(0, 0, far));
    }
    checks.refused("place(0, 0, 2)", x, INDEX, () -> x.place(0, 0, 2));
    checks.refused("place(2, 0, 0)", x, INDEX, () -> x.place(2, 0, 0));
  }
}
