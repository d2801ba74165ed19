/** Promises 14 to 21: what years do, and what is told of all. */
public final class YearsTest {
  private static final Class<IndexOutOfBoundsException> INDEX = IndexOutOfBoundsException.class;
  private static final Class<IllegalArgumentException> ARGUMENT = IllegalArgumentException.class;

  private static final int[] FAR = {Integer.MIN_VALUE, -1, 16, Integer.MAX_VALUE};
  private static final int[] NO_YEARS = {Integer.MIN_VALUE, -1, 0, 51, Integer.MAX_VALUE};

  private final Checks checks = new Checks("YearsTest");

  public static void main(String[] args) {
    YearsTest test = new YearsTest();
    test.pass();
    test.passByStrand();
    test.passRefuses();
    test.count();
    test.countWrapsAround();
    test.fades();
    test.fadesRefuses();
    test.amends();
    test.amendsOutside();
    test.weighs();
    test.weighsTies();
    test.weighsByDistance();
    test.weighsByTheMostThatCounts();
    test.weighsNothing();
    test.fullArchive();
    test.line();
    test.mean();
    test.digest();
    test.checks.end();
  }

  // Promise 14

  private void pass() {
    KnotArchive x = Scenes.single(0, 2109);
    checks.due("pass(9)", x.pass(9), 0);
    checks.due("9 years: place(0, 0, 1)", x.place(0, 0, 1), 9);
    checks.due("9 years: place(0, 2, 1)", x.place(0, 2, 1), 0);
    checks.due("9 years: cord(0, 2)", x.cord(0, 2), 2109);
    checks.due("the 10th: pass(1)", x.pass(1), 3);
    checks.due("10 years: cord(0, 2)", x.cord(0, 2), 1008);
    checks.due("10 years: cord(0, 7)", x.cord(0, 7), 0);
    checks.due("10 years: count(0)", x.count(0), 10);
    checks.due("10 years: count(7)", x.count(7), 3);
    checks.due("pass(50)", x.pass(50), 1 + 5);
    checks.due("60 years: cord(0, 2)", x.cord(0, 2), 3);
    checks.due("60 years: count(0)", x.count(0), 60);
    checks.due("60 years: count(7)", x.count(7), 9);
    KnotArchive empty = new KnotArchive();
    checks.due("no cords: pass(50)", empty.pass(50), 0);
    checks.due("no cords: count(0)", empty.count(0), 50);
  }

  private void passByStrand() {
    for (int strand = 0; strand < 5; strand++) {
      boolean fast = strand == 2 || strand == 4;
      KnotArchive x = Scenes.single(strand, 30);
      x.pass(4);
      checks.due("strand " + strand + ", 4 years: place(0, 2, 1)", x.place(0, 2, 1), fast ? 8 : 4);
      checks.due("strand " + strand + ": pass(1)", x.pass(1), fast ? 1 : 0);
      checks.due("strand " + strand + ", 5 years: place(0, 2, 1)", x.place(0, 2, 1), fast ? 0 : 5);
      checks.due("strand " + strand + ", 5 years: cord(0, 2)", x.cord(0, 2), fast ? 20 : 30);
    }
  }

  private void passRefuses() {
    KnotArchive x = Scenes.single(0, 9999);
    x.pass(1);
    for (int years : NO_YEARS) {
      checks.refused("pass(" + years + ")", x, ARGUMENT, () -> x.pass(years));
    }
    checks.due("refused: count(0)", x.count(0), 1);
  }

  // Promise 15

  private void count() {
    KnotArchive x = new KnotArchive();
    x.hang(-1, 0);
    x.hang(0, 0);
    x.hang(-1, 2);
    x.hang(2, 0);
    x.hang(0, 1);
    x.call();
    x.call();
    x.tie(0, 35);
    x.tie(1, 30);
    x.tie(4, 5);
    x.tie(2, 7000);
    x.tie(3, 900);
    x.untie(1, 3, 1, 4);
    x.pass(5);
    // The cord 2 frays faster: it has lost one of its seven knots, and says 6000 + 500.
    int[] due = {5, 5, 2, 8 + 3 + 6 + 5 + 5, 1, 1, 70 + 6500, 1};
    for (int what = 0; what < 8; what++) {
      checks.due("count(" + what + ")", x.count(what), due[what]);
    }
    for (int what : new int[] {Integer.MIN_VALUE, -1, 8, Integer.MAX_VALUE}) {
      checks.refused("count(" + what + ")", x, INDEX, () -> x.count(what));
    }
  }

  private void countWrapsAround() {
    KnotArchive x = new KnotArchive();
    int sum = 0;
    for (int i = 0; i < 4; i++) {
      int top = x.hang(-1, 4);
      x.tie(x.hang(top, 0), 9999);
      x.tie(x.hang(top, 0), 9999);
      sum += x.cord(top, 3);
      checks.due("9999 * 9999: cord(" + top + ", 3)", x.cord(top, 3), 99980001);
    }
    checks.due("four times: count(6)", x.count(6), sum);
    KnotArchive y = new KnotArchive();
    for (int i = 0; i < 2; i++) {
      int top = y.hang(-1, 4);
      y.tie(y.hang(top, 0), 9999);
      y.tie(y.hang(top, 0), 9999);
      y.tie(y.hang(top, 0), 15);
    }
    checks.due("1499700015 and the same: count(6)", y.count(6), 1499700015 + 1499700015);
    checks.holds("it wraps around", y.count(6) < 0);
  }

  // Promise 16

  private void fades() {
    KnotArchive x = Scenes.bundled(2, 2109, 35);
    x.tie(0, 11);
    long before = x.digest();
    checks.due("fades(1, 9)", x.fades(1, 9), 2109);
    checks.due("fades(1, 10)", x.fades(1, 10), 1008);
    checks.due("fades(1, 50)", x.fades(1, 50), 4);
    checks.due("fades(0, 1)", x.fades(0, 1), 2109 + 11);
    checks.due("fades(0, 5)", x.fades(0, 5), 2109);
    checks.due("fades(0, 20)", x.fades(0, 20), 13);
    checks.due("nothing is changed: digest()", x.digest(), before);
    checks.due("nothing is changed: cord(0, 3)", x.cord(0, 3), 2120);
    x.pass(6);
    checks.due("6 years later: fades(1, 3)", x.fades(1, 3), 2109);
    checks.due("6 years later: fades(1, 4)", x.fades(1, 4), 1008);
    x.mend(1);
    checks.due("mended: fades(1, 4)", x.fades(1, 4), 2109);
    checks.due("just told of the later: cord(1, 3)", x.cord(1, 3), 2109);
    checks.due("just told of the later: count(6)", x.count(6), 2109);
    int said = x.fades(0, 37);
    x.pass(37);
    checks.due("as told: cord(0, 3)", x.cord(0, 3), said);
  }

  private void fadesRefuses() {
    KnotArchive x = Scenes.single(0, 9999);
    x.pass(3);
    for (int cord : FAR) {
      checks.refused("fades(" + cord + ", 1)", x, INDEX, () -> x.fades(cord, 1));
      checks.refused("fades(" + cord + ", 0)", x, INDEX, () -> x.fades(cord, 0));
    }
    checks.refused("fades(1, 51)", x, INDEX, () -> x.fades(1, 51));
    for (int years : NO_YEARS) {
      checks.refused("fades(0, " + years + ")", x, ARGUMENT, () -> x.fades(0, years));
    }
  }

  // Promise 17

  private void amends() {
    KnotArchive x = Scenes.bundled(0, 4000, 321);
    checks.due("0 for 4321: amends(0)", x.amends(0), 4 + 3 + 2 + 1);
    x.tie(0, 1234);
    checks.due("1234 for 4321: amends(0)", x.amends(0), 3 + 1 + 1 + 3);
    x.tie(0, 9020);
    checks.due("9020 for 4321: amends(0)", x.amends(0), 5 + 3 + 0 + 1);
    x.tie(0, 4321);
    checks.due("4321 for 4321: amends(0)", x.amends(0), 0);
    checks.due("nothing hangs: amends(1)", x.amends(1), 0);
    long before = x.digest();
    x.tie(0, 4322);
    checks.due("4322 for 4321: amends(0)", x.amends(0), 1);
    x.tie(0, 4321);
    checks.due("nothing is changed: digest()", x.digest(), before);
    for (int cord : FAR) {
      checks.refused("amends(" + cord + ")", x, INDEX, () -> x.amends(cord));
    }
    checks.refused("amends(3)", x, INDEX, () -> x.amends(3));
  }

  private void amendsOutside() {
    KnotArchive x = Scenes.bundled(0, 9999, 0);
    checks.due("0 for 9999: amends(0)", x.amends(0), 36);
    x.tie(2, 1);
    checks.due("0 for 10000: amends(0)", x.amends(0), -1);
    KnotArchive y = Scenes.bundled(1, 5, 5);
    y.tie(0, 3);
    checks.due("3 for 0: amends(0)", y.amends(0), 3);
    y.tie(2, 6);
    checks.due("3 for -1: amends(0)", y.amends(0), -1);
  }

  // Promise 18

  private void weighs() {
    KnotArchive x = Scenes.bundled(4, 30, 200);
    checks.due("a knot at 30 is worth 200: weighs()", x.weighs(), 1);
    x.tie(1, 39);
    // With 9 knots at its place 3 there is no more to tie at the cord 1.
    checks.due("39: weighs()", x.weighs(), 2);
    x.tie(2, 209);
    checks.due("39 and 209: weighs()", x.weighs(), 0);
    x.tie(0, 9);
    checks.due("nothing to tie: weighs()", x.weighs(), -1);
    x.tie(2, 208);
    long before = x.digest();
    checks.due("208: weighs()", x.weighs(), 2);
    checks.due("nothing is changed: digest()", x.digest(), before);
    checks.due("nothing is changed: cord(0, 3)", x.cord(0, 3), 39 * 208 + 9);
    x.pass(4);
    checks.due("frayed: weighs()", x.weighs(), 2);
    checks.due("frayed: place(2, 3, 1)", x.place(2, 3, 1), 4);
  }

  private void weighsTies() {
    KnotArchive x = Scenes.bundled(0, 1, 2, 3);
    checks.due("all the same: weighs()", x.weighs(), 0);
    x.tie(0, 9);
    checks.due("without the cord 0: weighs()", x.weighs(), 1);
    x.tie(1, 19);
    checks.due("without the cord 1: weighs()", x.weighs(), 2);
    // What is behind a cord that takes from it changes it just as much.
    KnotArchive less = Scenes.bundled(1, 1, 2, 3);
    less.tie(0, 9);
    less.tie(1, 9);
    checks.due("one less counts as one more: weighs()", less.weighs(), 2);
    KnotArchive product = Scenes.bundled(4, 100, 100);
    checks.due("100 each: weighs()", product.weighs(), 1);
  }

  /** The differences are not wrapped around, and from 2147483647 on they are all the same. */
  private void weighsByDistance() {
    // The cords 1 and 5 multiply what hangs from them, and nearly reach the greatest int together.
    KnotArchive x = new KnotArchive();
    x.hang(-1, 0);
    x.hang(0, 4);
    x.tie(x.hang(1, 0), 9998);
    x.tie(x.hang(1, 0), 9998);
    x.tie(x.hang(1, 0), 21);
    x.hang(0, 4);
    x.tie(x.hang(5, 0), (Integer.MAX_VALUE - x.cord(0, 3)) / 9998);
    x.tie(x.hang(5, 0), 9998);
    int left = Integer.MAX_VALUE - x.cord(0, 3);
    int ones = (left - 18) % 10;
    x.tie(1, 9);
    x.tie(5, ones);
    x.tie(0, left - 9 - ones);
    checks.due("at the top: cord(0, 3)", x.cord(0, 3), Integer.MAX_VALUE);
    checks.holds("a knot can be tied at the cord 5, but none at 0 and 1",
        x.place(0, 3, 0) == 9 && x.place(1, 3, 0) == 9 && x.place(5, 3, 0) < 9);
    // A knot at the cord 5 leaps from the top to the bottom, which is farthest; at the cord 2 it leaps nearly as far,
    // and both count as 2147483647.
    checks.due("at the top: weighs()", x.weighs(), 2);

    x.tie(0, left - 9 - ones - 10);
    checks.due("10 less: cord(0, 3)", x.cord(0, 3), Integer.MAX_VALUE - 10);
    checks.due("10 less: weighs()", x.weighs(), 2);
    // Far from the top, the cord that multiplies the two greatest is worth the most.
    x.tie(6, 0);
    x.tie(4, 1);
    checks.due("a knot at 1 is worth 9998 * 9998: weighs()", x.weighs(), 4);
  }

  /** A change of 2147483646 is less than one of 2147483647, which is the most that counts. */
  private void weighsByTheMostThatCounts() {
    // 1386 * 4681 * 331 is 2147483646.
    int[] factors = {1386, 4681, 331};
    KnotArchive x = new KnotArchive();
    x.hang(-1, 0);
    x.hang(0, 4);
    x.hang(1, 0);
    for (int factor : factors) {
      x.tie(x.hang(1, 0), factor);
    }
    checks.due("0 times 2147483646: weighs()", x.weighs(), 2);
    x.hang(0, 4);
    x.hang(6, 0);
    x.hang(6, 4);
    x.tie(8, 1);
    for (int factor : factors) {
      x.tie(x.hang(8, 0), factor);
    }
    checks.due("1 + 2147483646: cord(8, 3)", x.cord(8, 3), Integer.MAX_VALUE);
    checks.due("0 times 2147483647: weighs()", x.weighs(), 7);
    x.tie(8, 2);
    checks.due("0 times -2147483648: weighs()", x.weighs(), 7);
    x.tie(8, 0);
    checks.due("both 2147483646: weighs()", x.weighs(), 2);
  }

  private void weighsNothing() {
    KnotArchive x = new KnotArchive();
    checks.due("no cord: weighs()", x.weighs(), -1);
    checks.due("one cord: weighs()", Scenes.single(0, 8).weighs(), 0);
    x.hang(-1, 3);
    x.tie(0, 9);
    checks.due("9 alone: weighs()", x.weighs(), -1);
    x.hang(-1, 0);
    checks.due("what hangs beside it: weighs()", x.weighs(), -1);
    x.tie(x.hang(0, 0), 5);
    checks.due("no other is more than 0: weighs()", x.weighs(), -1);
    x.hang(0, 0);
    checks.due("one that would be: weighs()", x.weighs(), 3);
  }

  /** All rows are full: 16 cords, 6 witnesses who remember all, 30 untyings. */
  private void fullArchive() {
    KnotArchive x = new KnotArchive();
    for (int cord = 0; cord < 16; cord++) {
      x.tie(x.hang(cord - 1, 0), 1000);
    }
    for (int witness = 0; witness < 6; witness++) {
      x.call();
      for (int cord = 0; cord < 16; cord++) {
        checks.due("full: read(" + witness + ", " + cord + ")", x.read(witness, cord), 1000 * (16 - cord));
      }
    }
    for (int i = 0; i < 30; i++) {
      x.tie(15, 1001);
      checks.due("full: untie(5, 15, 3, 1)", x.untie(5, 15, 3, 1), 1000);
    }
    checks.due("full: cord(0, 3)", x.cord(0, 3), 16000);
    checks.due("full: fades(0, 10)", x.fades(0, 10), 0);
    checks.due("full: weighs()", x.weighs(), 0);
    checks.dueDouble("full: mean()", x.mean(), 10);
    checks.due("full: dispute(15)", x.dispute(15), 1000);
    checks.dueDouble("full: mean() then", x.mean(), 11);
    // The last two agree: nothing hangs from the cord 15, and the cord 14 bears what this one says.
    int[] due = {0, 16, 6, 16, 30, 14, 16000, 0};
    for (int what = 0; what < 8; what++) {
      checks.due("full: count(" + what + ")", x.count(what), due[what]);
    }
    checks.due("full: untying(29, 1)", x.untying(29, 1), 15);
    checks.due("full: line(15)", x.line(15), "15:0:1000".hashCode());
    checks.due("full: pass(10)", x.pass(10), 16);
    checks.due("full: count(7)", x.count(7), 16);
  }

  // Promise 19

  private void line() {
    KnotArchive x = new KnotArchive();
    for (int cord = 0; cord < 12; cord++) {
      x.hang(cord < 6 ? cord - 1 : -1, cord % 5);
    }
    x.tie(0, 0);
    x.tie(3, 7);
    x.tie(10, 9999);
    x.tie(11, 120);
    checks.due("line(0)", x.line(0), "0:0:0".hashCode());
    checks.due("line(3)", x.line(3), "3:3:7".hashCode());
    checks.due("line(10)", x.line(10), "10:0:9999".hashCode());
    checks.due("line(11)", x.line(11), "11:1:120".hashCode());
    for (int cord : FAR) {
      checks.refused("line(" + cord + ")", x, INDEX, () -> x.line(cord));
    }
    checks.refused("line(12)", x, INDEX, () -> x.line(12));
  }

  // Promise 20

  private void mean() {
    KnotArchive x = Scenes.single(0, 1);
    checks.dueDouble("nobody: mean()", x.mean(), 0);
    x.call();
    checks.dueDouble("one: mean()", x.mean(), 10);
    x.call();
    x.call();
    x.read(2, 0);
    x.dispute(0);
    checks.dueDouble("10, 10 and 11: mean()", x.mean(), 31.0 / 3.0);
    x.call();
    checks.dueDouble("10, 10, 11 and 10: mean()", x.mean(), 10.25);
  }

  // Promise 21

  private static long fold(long start, int... numbers) {
    long d = start;
    for (int number : numbers) {
      d = d * 31 + number;
    }
    return d;
  }

  private void digest() {
    KnotArchive x = new KnotArchive();
    checks.due("new: digest()", x.digest(), fold(797, 0, 0, 0, 0, 0, 0, 0, 0));
    x.hang(-1, 1);
    x.hang(0, 0);
    x.hang(0, 2);
    x.call();
    x.call();
    x.tie(1, 10);
    x.tie(2, 203);
    x.pass(3);
    x.read(1, 0);
    x.dispute(0);
    x.untie(0, 2, 3, 2);
    long d = fold(797, 3, 3, 2, 1 + 2 + 1, 1, 1, 10 - 201, 0);
    d = fold(d, -1, 1, 0, -191, -191, 2, 0, 0, 0, 0, 0, 0, 0, 0, 0, 0);
    d = fold(d, 0, 0, 10, 10, 0, 0, 1, 3, 0, 0, 0, 0, 1, 3, 0, 0);
    d = fold(d, 0, 2, 201, 201, 0, 0, 1, 12, 0, 0, 2, 6, 0, 0, 1, 6);
    d = fold(d, 10, -1, -1, 0, -1, -1, 0, -1, -1, 0);
    d = fold(d, 11, -193, 3, 1, -1, -1, 0, -1, -1, 0);
    d = fold(d, 0, 2, 3, 2, 3);
    checks.due("digest()", x.digest(), d);
    checks.due("digest() again", x.digest(), d);
  }
}
