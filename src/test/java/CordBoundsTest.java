import java.util.Arrays;

/**
 * Each sentence of the document that names a bound of cords: the terms about them, and the promises 1 to 7. Above each
 * test stands the sentence that it is for.
 */
public final class CordBoundsTest {
  private final Checks checks = new Checks("CordBoundsTest");

  public static void main(String[] args) {
    CordBoundsTest test = new CordBoundsTest();
    test.nothingYet();
    test.atMostSixteen();
    test.numberedInOrder();
    test.hangsFromAnEarlierOne();
    test.hangsFromTheGreatestNumber();
    test.strandZeroToFour();
    test.atMostSixFromOne();
    test.sixFromEachOfTwo();
    test.sixDoNotBindTheBeam();
    test.theSixthIsTheSixteenth();
    test.nothingTiedAtFirst();
    test.withoutAnyCountedIsZero();
    test.oneAlone();
    test.theFirstHasTheSmallestNumber();
    test.theGreatestBelowZero();
    test.moreThanZero();
    test.multipliedByZeroAndBelow();
    test.countedOfTheNearestAlone();
    test.agreesWithoutAny();
    test.agreesToTheKnot();
    test.agreesNeverOutside();
    test.tieZeroToTheGreatest();
    test.tieMendsAlsoTheSame();
    test.tieBothEndsOfCords();
    test.untieOneToNine();
    test.untieAllThatThereAre();
    test.untieAtEachPlace();
    test.untieThirty();
    test.untieByTheLastWitness();
    test.untieKeepsTheFray();
    test.mendNothing();
    test.mendTheMost();
    test.mendOneCordAlone();
    test.cordWhats();
    test.placeWhats();
    test.checks.end();
  }

  /** "Creates an archive of the beam alone, in the year 0." No cord is there: each call for one is refused. */
  private void nothingYet() {
    KnotArchive x = new KnotArchive();
    for (int what = 0; what < 8; what++) {
      checks.due("new: count(" + what + ")", x.count(what), 0);
    }
    checks.index("new: hang(0, 0)", x, () -> x.hang(0, 0));
    checks.index("new: tie(0, 0)", x, () -> x.tie(0, 0));
    checks.index("new: untie(0, 0, 0, 1)", x, () -> x.untie(0, 0, 0, 1));
    checks.index("new: mend(0)", x, () -> x.mend(0));
    checks.index("new: cord(0, 0)", x, () -> x.cord(0, 0));
    checks.index("new: place(0, 0, 0)", x, () -> x.place(0, 0, 0));
    checks.index("new: read(0, 0)", x, () -> x.read(0, 0));
    checks.index("new: remembers(0, 0, 0)", x, () -> x.remembers(0, 0, 0));
    checks.index("new: trust(0)", x, () -> x.trust(0));
    checks.index("new: dispute(0)", x, () -> x.dispute(0));
    checks.index("new: untying(0, 0)", x, () -> x.untying(0, 0));
    checks.index("new: fades(0, 1)", x, () -> x.fades(0, 1));
    checks.index("new: amends(0)", x, () -> x.amends(0));
    checks.index("new: line(0)", x, () -> x.line(0));
    checks.due("new: hang(-1, 0)", x.hang(-1, 0), 0);
    checks.due("new: call()", x.call(), 0);
  }

  /** "There are at most 16"; "Throws IllegalStateException if there are 16". */
  private void atMostSixteen() {
    KnotArchive x = Scenes.beside(15, 0);
    checks.due("the 16th: hang(14, 4)", x.hang(14, 4), 15);
    checks.due("16: count(1)", x.count(1), 16);
    checks.state("the 17th: hang(-1, 0)", x, () -> x.hang(-1, 0));
    checks.state("the 17th: hang(0, 0)", x, () -> x.hang(0, 0));
    checks.state("the 17th: hang(15, 4)", x, () -> x.hang(15, 4));
    checks.due("the 16th: tie(15, 9999)", x.tie(15, 9999), 0);
    checks.due("the 16th: cord(15, 3)", x.cord(15, 3), 9999);
    checks.due("the 16th: cord(14, 5)", x.cord(14, 5), 1);
  }

  /** "numbered from 0 in the order of their hanging"; "Returns its number." */
  private void numberedInOrder() {
    KnotArchive x = new KnotArchive();
    for (int cord = 0; cord < 16; cord++) {
      checks.due("hang(" + (cord - 1) + ", 3)", x.hang(cord - 1, 3), cord);
      checks.due("the newest: cord(" + cord + ", 0)", x.cord(cord, 0), cord - 1);
    }
  }

  /** "each hangs from an earlier one, or from the beam"; "if there is no such cord, and it is not -1". */
  private void hangsFromAnEarlierOne() {
    KnotArchive x = Scenes.beside(3, 0);
    checks.index("from itself: hang(3, 0)", x, () -> x.hang(3, 0));
    checks.index("from a later one: hang(4, 0)", x, () -> x.hang(4, 0));
    checks.index("from below the beam: hang(-2, 0)", x, () -> x.hang(-2, 0));
    checks.index("hang(MIN, 0)", x, () -> x.hang(Integer.MIN_VALUE, 0));
    checks.index("hang(MAX, 0)", x, () -> x.hang(Integer.MAX_VALUE, 0));
    checks.due("from the latest: hang(2, 0)", x.hang(2, 0), 3);
    checks.due("from the earliest: hang(0, 0)", x.hang(0, 0), 4);
    checks.due("from the beam: hang(-1, 0)", x.hang(-1, 0), 5);
    checks.due("from the latest: cord(3, 0)", x.cord(3, 0), 2);
    checks.due("from the earliest: cord(4, 0)", x.cord(4, 0), 0);
    checks.due("from the beam: cord(5, 0)", x.cord(5, 0), -1);
  }

  /** The same, with the greatest number of a cord from which another one can hang, and with the number behind it. */
  private void hangsFromTheGreatestNumber() {
    KnotArchive x = Scenes.beside(15, 0);
    checks.index("15 cords: hang(15, 0)", x, () -> x.hang(15, 0));
    checks.due("15 cords: hang(14, 0)", x.hang(14, 0), 15);
    checks.index("16 cords: hang(16, 0)", x, () -> x.hang(16, 0));
  }

  /** "is of a strand, 0 to 4"; "Throws IllegalArgumentException if strand is not 0 to 4". */
  private void strandZeroToFour() {
    KnotArchive x = new KnotArchive();
    for (int strand = 0; strand <= 4; strand++) {
      int cord = x.hang(strand - 1, strand);
      checks.due("strand " + strand + ": cord(" + cord + ", 1)", x.cord(cord, 1), strand);
    }
    for (int strand : new int[] {Integer.MIN_VALUE, -1, 5, Integer.MAX_VALUE}) {
      checks.argument("hang(-1, " + strand + ")", x, () -> x.hang(-1, strand));
      checks.argument("hang(4, " + strand + ")", x, () -> x.hang(4, strand));
    }
    checks.due("refused: count(1)", x.count(1), 5);
  }

  /** "At most 6 cords hang from one."; "or 6 hang from this one". */
  private void atMostSixFromOne() {
    KnotArchive x = Scenes.beside(2, 0);
    for (int hanging = 1; hanging <= 6; hanging++) {
      checks.due("hang(1, 0)", x.hang(1, 0), hanging + 1);
      checks.due("hung: cord(1, 5)", x.cord(1, 5), hanging);
    }
    checks.state("the 7th: hang(1, 0)", x, () -> x.hang(1, 0));
    checks.state("the 7th, of another strand: hang(1, 4)", x, () -> x.hang(1, 4));
    checks.due("the 7th: cord(1, 5)", x.cord(1, 5), 6);
    checks.due("another has none: cord(0, 5)", x.cord(0, 5), 0);
    checks.due("from another: hang(0, 0)", x.hang(0, 0), 8);
  }

  /** The same: what hangs from a cord that hangs from it does not count, and the bound is each cord's own. */
  private void sixFromEachOfTwo() {
    KnotArchive x = Scenes.beside(1, 0);
    for (int i = 0; i < 5; i++) {
      x.hang(0, 0);
    }
    for (int hanging = 1; hanging <= 6; hanging++) {
      checks.due("5 at the cord 0: hang(1, 0)", x.hang(1, 0), hanging + 5);
    }
    checks.state("6 at the cord 1: hang(1, 0)", x, () -> x.hang(1, 0));
    checks.due("5 at the cord 0, 6 behind them: hang(0, 0)", x.hang(0, 0), 12);
    checks.state("6 at the cord 0: hang(0, 0)", x, () -> x.hang(0, 0));
    checks.due("behind the cord 1: hang(6, 0)", x.hang(6, 0), 13);
  }

  /** The same: the bound is one of cords, and the beam is none. */
  private void sixDoNotBindTheBeam() {
    KnotArchive x = new KnotArchive();
    for (int cord = 0; cord < 16; cord++) {
      checks.due("at the beam: hang(-1, 0)", x.hang(-1, 0), cord);
    }
    checks.state("16 at the beam: hang(-1, 0)", x, () -> x.hang(-1, 0));
  }

  /** The same, where both bounds are met by one cord. */
  private void theSixthIsTheSixteenth() {
    KnotArchive x = Scenes.beside(15, 0);
    KnotArchive y = Scenes.beside(10, 0);
    for (int cord = 10; cord < 15; cord++) {
      y.hang(9, 0);
    }
    checks.due("the 1st of a cord and the 16th: hang(14, 0)", x.hang(14, 0), 15);
    checks.due("the 6th of a cord and the 16th: hang(9, 0)", y.hang(9, 0), 15);
    checks.state("both: hang(9, 0)", y, () -> y.hang(9, 0));
    checks.due("both: cord(9, 5)", y.cord(9, 5), 6);
  }

  /** "0 to 9 knots each (0, at first), and for each place a fray, 0 to 9 (0, at first)". */
  private void nothingTiedAtFirst() {
    KnotArchive x = Scenes.beside(15, 0);
    x.hang(14, 4);
    for (int cord : new int[] {0, 7, 15}) {
      for (int place = 0; place < 4; place++) {
        checks.due("at first: place(" + cord + ", " + place + ", 0)", x.place(cord, place, 0), 0);
        checks.due("at first: place(" + cord + ", " + place + ", 1)", x.place(cord, place, 1), 0);
      }
      checks.due("at first: cord(" + cord + ", 2)", x.cord(cord, 2), 0);
      checks.due("at first: cord(" + cord + ", 7)", x.cord(cord, 7), 0);
    }
  }

  /** "Without any it is 0 with each strand." */
  private void withoutAnyCountedIsZero() {
    for (int strand = 0; strand <= 4; strand++) {
      KnotArchive x = Scenes.single(strand, 9999);
      checks.due("nothing hangs, strand " + strand + ": cord(0, 4)", x.cord(0, 4), 0);
      checks.due("nothing hangs, strand " + strand + ": cord(0, 3)", x.cord(0, 3), 9999);
      checks.due("nothing hangs, strand " + strand + ": cord(0, 5)", x.cord(0, 5), 0);
      x.tie(x.hang(-1, 0), 7);
      checks.due("one beside it, strand " + strand + ": cord(0, 4)", x.cord(0, 4), 0);
    }
  }

  private void counts(int strand, int want, int... numbers) {
    KnotArchive x = Scenes.bundled(strand, numbers);
    checks.due("strand " + strand + " of " + Arrays.toString(numbers) + ": cord(0, 4)", x.cord(0, 4), want);
  }

  /** What is counted of a single cord: "all that these say, added", "the first", "the greatest", "how many". */
  private void oneAlone() {
    int[] ofZero = {0, 0, 0, 0, 0};
    int[] ofOne = {1, 1, 1, 1, 1};
    int[] ofTheMost = {9999, 9999, 9999, 1, 9999};
    for (int strand = 0; strand <= 4; strand++) {
      counts(strand, ofZero[strand], 0);
      counts(strand, ofOne[strand], 1);
      counts(strand, ofTheMost[strand], 9999);
    }
  }

  /** "1 what the first of them (with the smallest number) says, less all others". */
  private void theFirstHasTheSmallestNumber() {
    counts(1, 9999, 9999, 0);
    counts(1, -9999, 0, 9999);
    counts(1, 0, 5, 5);
    counts(1, 9994, 9999, 1, 1, 1, 1, 1);
    counts(1, -49994, 1, 9999, 9999, 9999, 9999, 9999);
  }

  /** "2 the greatest of them": the first, the last, several of them, and where all say less than 0. */
  private void theGreatestBelowZero() {
    counts(2, 9999, 9999, 0, 9998);
    counts(2, 9999, 0, 9998, 9999);
    counts(2, 7, 7, 7);
    KnotArchive x = new KnotArchive();
    x.hang(-1, 2);
    Scenes.bundle(x, 0, 1, 0, 2);
    Scenes.bundle(x, 0, 1, 0, 1);
    Scenes.bundle(x, 0, 1, 0, 3);
    checks.due("the greatest of -2, -1 and -3: cord(0, 4)", x.cord(0, 4), -1);
    x.tie(6, 0);
    checks.due("the greatest of -2, 0 and -3: cord(0, 4)", x.cord(0, 4), 0);
  }

  /** "3 how many of them say more than 0". */
  private void moreThanZero() {
    counts(3, 0, 0, 0);
    counts(3, 1, 0, 1);
    counts(3, 1, 1, 0);
    counts(3, 6, 1, 1, 1, 1, 1, 1);
    counts(3, 6, 9999, 9999, 9999, 9999, 9999, 9999);
    KnotArchive x = new KnotArchive();
    x.hang(-1, 3);
    Scenes.bundle(x, 0, 1, 0, 1);
    checks.due("-1 is not more: cord(0, 4)", x.cord(0, 4), 0);
    x.tie(1, 1);
    checks.due("1 - 1 is not more: cord(0, 4)", x.cord(0, 4), 0);
    x.tie(1, 2);
    checks.due("2 - 1 is more: cord(0, 4)", x.cord(0, 4), 1);
    x.hang(0, 0);
    checks.due("0 behind it is not: cord(0, 4)", x.cord(0, 4), 1);
  }

  /** "4 all of them, multiplied": with a 0 at each end, and with what is less than 0. */
  private void multipliedByZeroAndBelow() {
    counts(4, 0, 0, 9999);
    counts(4, 0, 9999, 0);
    counts(4, 9999, 1, 9999);
    counts(4, 99980001, 9999, 9999);
    counts(4, 720, 1, 2, 3, 4, 5, 6);
    KnotArchive x = new KnotArchive();
    x.hang(-1, 4);
    Scenes.bundle(x, 0, 1, 0, 2);
    Scenes.bundle(x, 0, 1, 0, 3);
    x.tie(x.hang(0, 0), 5);
    checks.due("-2 * -3 * 5: cord(0, 4)", x.cord(0, 4), 30);
    x.tie(4, 3);
    checks.due("-2 * 0 * 5: cord(0, 4)", x.cord(0, 4), 0);
  }

  /** "what is counted of the cords that hang from it": those alone, by what they say with all that is behind them. */
  private void countedOfTheNearestAlone() {
    KnotArchive x = new KnotArchive();
    for (int cord = 0; cord < 16; cord++) {
      x.tie(x.hang(cord - 1, 3), 5);
    }
    checks.due("a chain of 16: cord(15, 3)", x.cord(15, 3), 5);
    checks.due("a chain of 16: cord(14, 3)", x.cord(14, 3), 6);
    checks.due("a chain of 16: cord(0, 3)", x.cord(0, 3), 6);
    checks.due("a chain of 16: cord(0, 5)", x.cord(0, 5), 1);
  }

  /** "It agrees, if nothing hangs from it": with each strand and any digits. */
  private void agreesWithoutAny() {
    for (int strand = 0; strand <= 4; strand++) {
      for (int number : new int[] {0, 1, 9999}) {
        KnotArchive x = Scenes.single(strand, number);
        checks.due("nothing hangs from " + number + ": cord(0, 6)", x.cord(0, 6), 1);
        checks.due("nothing hangs from " + number + ": count(5)", x.count(5), 0);
      }
    }
  }

  /** "or its digits are what is counted of these". */
  private void agreesToTheKnot() {
    int[][] triples = {{0, 1, 9999}, {9999, 0, 9998}, {5000, 4999, 5001}};
    for (int[] triple : triples) {
      KnotArchive x = Scenes.bundled(0, triple[0]);
      x.tie(0, triple[0]);
      checks.due("the same: cord(0, 6)", x.cord(0, 6), 1);
      for (int i = 1; i < 3; i++) {
        x.tie(0, triple[i]);
        checks.due(triple[i] + " for " + triple[0] + ": cord(0, 6)", x.cord(0, 6), 0);
      }
    }
  }

  /** The same, where what is counted is no number that digits can tell. */
  private void agreesNeverOutside() {
    KnotArchive more = Scenes.bundled(0, 9999, 1);
    KnotArchive less = Scenes.bundled(1, 0, 1);
    for (int number : new int[] {0, 1, 9999}) {
      more.tie(0, number);
      less.tie(0, number);
      checks.due(number + " for 10000: cord(0, 6)", more.cord(0, 6), 0);
      checks.due(number + " for -1: cord(0, 6)", less.cord(0, 6), 0);
    }
    more.tie(2, 0);
    checks.due("9999 for 9999: cord(0, 6)", more.cord(0, 6), 1);
  }

  /** "Throws IllegalArgumentException if number is not 0 to 9999"; "Returns its digits before." */
  private void tieZeroToTheGreatest() {
    KnotArchive x = Scenes.beside(1, 0);
    checks.due("tie(0, 0)", x.tie(0, 0), 0);
    checks.due("tie(0, 9999)", x.tie(0, 9999), 0);
    for (int place = 0; place < 4; place++) {
      checks.due("9999: place(0, " + place + ", 0)", x.place(0, place, 0), 9);
    }
    for (int number : new int[] {Integer.MIN_VALUE, -9999, -1, 10000, Integer.MAX_VALUE}) {
      checks.argument("tie(0, " + number + ")", x, () -> x.tie(0, number));
    }
    checks.due("tie(0, 0) again", x.tie(0, 0), 9999);
    int[] powers = {1000, 100, 10, 1};
    for (int place = 0; place < 4; place++) {
      x.tie(0, powers[place]);
      for (int other = 0; other < 4; other++) {
        checks.due(powers[place] + ": place(0, " + other + ", 0)", x.place(0, other, 0), other == place ? 1 : 0);
      }
    }
  }

  /** "its knots are those that tell it, and nothing is frayed": also where the number is the same, and 0. */
  private void tieMendsAlsoTheSame() {
    for (int number : new int[] {9999, 0}) {
      KnotArchive x = Scenes.single(0, 9999);
      x.pass(9);
      checks.due("9 years: cord(0, 7)", x.cord(0, 7), 36);
      checks.due("tie(0, " + number + ")", x.tie(0, number), 9999);
      checks.due("tied: cord(0, 7)", x.cord(0, 7), 0);
      for (int place = 0; place < 4; place++) {
        checks.due("tied: place(0, " + place + ", 1)", x.place(0, place, 1), 0);
      }
    }
  }

  /** "Throws IndexOutOfBoundsException if there is no such cord": for tie and mend, at both ends. */
  private void tieBothEndsOfCords() {
    KnotArchive x = Scenes.beside(2, 0);
    x.tie(0, 1);
    x.tie(1, 2);
    x.pass(1);
    for (int cord : new int[] {Integer.MIN_VALUE, -1, 2, 15, 16, Integer.MAX_VALUE}) {
      checks.index("tie(" + cord + ", 0)", x, () -> x.tie(cord, 0));
      checks.index("mend(" + cord + ")", x, () -> x.mend(cord));
    }
    checks.due("tie(0, 3)", x.tie(0, 3), 1);
    checks.due("mend(1)", x.mend(1), 1);
    checks.due("tie(1, 4)", x.tie(1, 4), 2);
  }

  /** "Throws IllegalArgumentException if knots is not 1 to 9". */
  private void untieOneToNine() {
    KnotArchive x = Scenes.beside(1, 1);
    x.tie(0, 9999);
    for (int knots : new int[] {Integer.MIN_VALUE, -1, 0, 10, Integer.MAX_VALUE}) {
      checks.argument("untie(0, 0, 0, " + knots + ")", x, () -> x.untie(0, 0, 0, knots));
    }
    checks.due("untie(0, 0, 0, 1)", x.untie(0, 0, 0, 1), 8999);
    checks.due("untie(0, 0, 1, 9)", x.untie(0, 0, 1, 9), 8099);
    checks.due("untied: count(4)", x.count(4), 2);
  }

  /** "Throws IllegalStateException if there are not so many". */
  private void untieAllThatThereAre() {
    for (int there = 1; there <= 8; there++) {
      int one = there;
      KnotArchive x = Scenes.beside(1, 1);
      x.tie(0, 9909 + 10 * there);
      checks.state(there + " there: one more", x, () -> x.untie(0, 0, 2, one + 1));
      checks.due(there + " there: all", x.untie(0, 0, 2, there), 9909);
      checks.state("none there: untie(0, 0, 2, 1)", x, () -> x.untie(0, 0, 2, 1));
      checks.due("refused: count(4)", x.count(4), 1);
    }
  }

  /** "or place is not 0 to 3", and "no such witness or cord", at both ends. */
  private void untieAtEachPlace() {
    KnotArchive x = Scenes.beside(2, 2);
    x.tie(0, 1111);
    x.tie(1, 1111);
    for (int place : new int[] {Integer.MIN_VALUE, -1, 4, Integer.MAX_VALUE}) {
      checks.index("untie(0, 0, " + place + ", 1)", x, () -> x.untie(0, 0, place, 1));
    }
    for (int far : new int[] {Integer.MIN_VALUE, -1, 2, 6, 16, Integer.MAX_VALUE}) {
      checks.index("untie(" + far + ", 0, 0, 1)", x, () -> x.untie(far, 0, 0, 1));
      checks.index("untie(0, " + far + ", 0, 1)", x, () -> x.untie(0, far, 0, 1));
    }
    int[] left = {111, 11, 1, 0};
    for (int place = 0; place < 4; place++) {
      checks.due("untie(1, 1, " + place + ", 1)", x.untie(1, 1, place, 1), left[place]);
    }
    checks.due("another cord: cord(0, 2)", x.cord(0, 2), 1111);
  }

  /** "at most 30"; "behind the 30th none can be untied"; "or 30 untyings are written down". */
  private void untieThirty() {
    KnotArchive x = Scenes.beside(2, 1);
    for (int i = 0; i < 29; i++) {
      x.tie(0, 1);
      x.untie(0, 0, 3, 1);
    }
    x.tie(0, 9);
    checks.due("29: count(4)", x.count(4), 29);
    checks.due("the 30th: untie(0, 0, 3, 1)", x.untie(0, 0, 3, 1), 8);
    checks.state("the 31st: untie(0, 0, 3, 1)", x, () -> x.untie(0, 0, 3, 1));
    checks.due("30: count(4)", x.count(4), 30);
    checks.due("30: cord(0, 2)", x.cord(0, 2), 8);
    x.call();
    x.tie(1, 9999);
    checks.state("by another, of another: untie(1, 1, 0, 9)", x, () -> x.untie(1, 1, 0, 9));
  }

  /** A witness and a cord of the greatest number untie, and are written down. */
  private void untieByTheLastWitness() {
    KnotArchive x = Scenes.beside(16, 6);
    x.tie(15, 9);
    checks.due("untie(5, 15, 3, 9)", x.untie(5, 15, 3, 9), 0);
    int[] due = {5, 15, 3, 9, 0};
    for (int what = 0; what < 5; what++) {
      checks.due("untying(0, " + what + ")", x.untying(0, what), due[what]);
    }
    checks.index("untie(6, 15, 3, 9)", x, () -> x.untie(6, 15, 3, 9));
    checks.index("untie(5, 16, 3, 9)", x, () -> x.untie(5, 16, 3, 9));
  }

  /** The document says of no fray that it changes where knots are untied; a place without knots does not fray. */
  private void untieKeepsTheFray() {
    KnotArchive x = Scenes.beside(1, 1);
    x.tie(0, 21);
    x.pass(9);
    x.untie(0, 0, 3, 1);
    x.untie(0, 0, 2, 1);
    checks.due("no knots left: place(0, 3, 1)", x.place(0, 3, 1), 9);
    checks.due("a knot left: place(0, 2, 1)", x.place(0, 2, 1), 9);
    checks.due("both: cord(0, 7)", x.cord(0, 7), 18);
    checks.due("pass(1)", x.pass(1), 1);
    checks.due("no knots left, a year on: place(0, 3, 1)", x.place(0, 3, 1), 9);
    checks.due("the last knot lost: place(0, 2, 1)", x.place(0, 2, 1), 0);
    checks.due("mend(0)", x.mend(0), 9);
  }

  /** "Returns all frays of it before, added.": nothing there yet. */
  private void mendNothing() {
    KnotArchive x = Scenes.beside(1, 0);
    checks.due("no knots: mend(0)", x.mend(0), 0);
    x.pass(50);
    checks.due("no knots for 50 years: mend(0)", x.mend(0), 0);
    x.tie(0, 9999);
    checks.due("tied just now: mend(0)", x.mend(0), 0);
    x.pass(1);
    checks.due("a year on: mend(0)", x.mend(0), 4);
    checks.due("mended just now: mend(0)", x.mend(0), 0);
  }

  /** The same, with the greatest frays that there are: 9 at each place, or 8 with the strands 2 and 4. */
  private void mendTheMost() {
    int[] years = {9, 9, 4, 9, 4};
    int[] most = {36, 36, 32, 36, 32};
    for (int strand = 0; strand <= 4; strand++) {
      KnotArchive x = Scenes.single(strand, 9999);
      checks.due("strand " + strand + ": pass(" + years[strand] + ")", x.pass(years[strand]), 0);
      checks.due("strand " + strand + ": cord(0, 7)", x.cord(0, 7), most[strand]);
      checks.due("strand " + strand + ": mend(0)", x.mend(0), most[strand]);
      checks.due("strand " + strand + ", mended: cord(0, 7)", x.cord(0, 7), 0);
      checks.due("strand " + strand + ", mended: cord(0, 2)", x.cord(0, 2), 9999);
      checks.due("strand " + strand + ", a year on: pass(1)", x.pass(1), 0);
    }
  }

  /** "Mends a cord: nothing of it is frayed." Of this one, also the last, and of no other. */
  private void mendOneCordAlone() {
    KnotArchive x = Scenes.beside(16, 0);
    x.tie(0, 1);
    x.tie(14, 1);
    x.tie(15, 1);
    x.pass(9);
    checks.due("mend(15)", x.mend(15), 9);
    checks.due("another: cord(14, 7)", x.cord(14, 7), 9);
    checks.due("another: cord(0, 7)", x.cord(0, 7), 9);
    checks.due("pass(1)", x.pass(1), 2);
  }

  /** "Throws IndexOutOfBoundsException if there is no such cord, or what is not 0 to 7". */
  private void cordWhats() {
    KnotArchive x = Scenes.beside(2, 0);
    x.tie(1, 9);
    x.pass(1);
    int[] due = {-1, 0, 9, 9, 0, 0, 1, 1};
    for (int what = 0; what < 8; what++) {
      checks.due("cord(1, " + what + ")", x.cord(1, what), due[what]);
    }
    for (int what : new int[] {Integer.MIN_VALUE, -1, 8, Integer.MAX_VALUE}) {
      checks.index("cord(1, " + what + ")", x, () -> x.cord(1, what));
    }
    for (int cord : new int[] {Integer.MIN_VALUE, -1, 2, 16, Integer.MAX_VALUE}) {
      checks.index("cord(" + cord + ", 7)", x, () -> x.cord(cord, 7));
    }
  }

  /** "if there is no such cord, place is not 0 to 3, or what is not 0 to 1". */
  private void placeWhats() {
    KnotArchive x = Scenes.beside(2, 0);
    x.tie(1, 9009);
    x.pass(9);
    int[] knots = {9, 0, 0, 9};
    for (int place = 0; place < 4; place++) {
      checks.due("place(1, " + place + ", 0)", x.place(1, place, 0), knots[place]);
      checks.due("place(1, " + place + ", 1)", x.place(1, place, 1), knots[place]);
    }
    for (int place : new int[] {Integer.MIN_VALUE, -1, 4, Integer.MAX_VALUE}) {
      checks.index("place(1, " + place + ", 0)", x, () -> x.place(1, place, 0));
    }
    for (int what : new int[] {Integer.MIN_VALUE, -1, 2, Integer.MAX_VALUE}) {
      checks.index("place(1, 3, " + what + ")", x, () -> x.place(1, 3, what));
    }
    for (int cord : new int[] {Integer.MIN_VALUE, -1, 2, 16, Integer.MAX_VALUE}) {
      checks.index("place(" + cord + ", 0, 0)", x, () -> x.place(cord, 0, 0));
    }
  }
}
