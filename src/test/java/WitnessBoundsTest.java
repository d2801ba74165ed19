/**
 * Each sentence of the document that names a bound of witnesses and untyings: the terms about them, and the promises 8
 * to 13. Above each test stands the sentence that it is for.
 */
public final class WitnessBoundsTest {
  private final Checks checks = new Checks("WitnessBoundsTest");

  public static void main(String[] args) {
    WitnessBoundsTest test = new WitnessBoundsTest();
    test.atMostSix();
    test.eachTrustedTenAtFirst();
    test.readBothEnds();
    test.readNothing();
    test.remembersTheLastReading();
    test.remembersNothingYet();
    test.remembersNoLaterCord();
    test.remembersMinusOne();
    test.remembersWhats();
    test.trustBothEnds();
    test.trustAtMostTwenty();
    test.trustAtLeastZero();
    test.trustBackFromItsEnds();
    test.nobodyToDispute();
    test.oneAloneIsTold();
    test.oneMoreOfTrustTells();
    test.trustIsAddedToTheLast();
    test.trustOfThisCordAlone();
    test.theLatestYear();
    test.theLatestYearIsNotThatOfAnother();
    test.theYearIsThatOfTheLastReading();
    test.theSmallestNumber();
    test.theSmallestOfNumbersBelowZero();
    test.noTrustAtAll();
    test.zeroTrustAgainstOne();
    test.allSixOfOneMind();
    test.sixNumbers();
    test.disputeForgetsNothing();
    test.noUntyingYet();
    test.untyingBothEnds();
    test.untyingWhats();
    test.checks.end();
  }

  private void trusts(String when, KnotArchive x, int... due) {
    for (int witness = 0; witness < due.length; witness++) {
      checks.due(when + ": trust(" + witness + ")", x.trust(witness), due[witness]);
    }
  }

  /** The witnesses 0 and on read the cord 0, each as it says the number that stands here for this one. */
  private static KnotArchive readings(int... numbers) {
    KnotArchive x = Scenes.beside(2, numbers.length);
    for (int witness = 0; witness < numbers.length; witness++) {
      Scenes.readAs(x, witness, 0, numbers[witness]);
    }
    return x;
  }

  /** Gives the witness so much more of trust, by disputes about the cord 1, which it alone has read. */
  private static void gain(KnotArchive x, int witness, int times) {
    Scenes.readAs(x, witness, 1, 1);
    for (int i = 0; i < times; i++) {
      x.dispute(1);
    }
  }

  /** "There are at most 6, numbered likewise"; "Throws IllegalStateException if there are 6". */
  private void atMostSix() {
    KnotArchive x = Scenes.beside(1, 0);
    for (int witness = 0; witness < 6; witness++) {
      int one = witness;
      checks.index("not called yet: trust(" + witness + ")", x, () -> x.trust(one));
      checks.due("call()", x.call(), witness);
      checks.due("called: count(2)", x.count(2), witness + 1);
    }
    checks.state("the 7th: call()", x, () -> x.call());
    checks.due("the 7th: count(2)", x.count(2), 6);
    checks.due("the 6th: read(5, 0)", x.read(5, 0), 0);
    checks.due("the 6th: remembers(5, 0, 2)", x.remembers(5, 0, 2), 1);
  }

  /** "each has trust, 0 to 20 (10, at first)": also one who is called when others have more and less. */
  private void eachTrustedTenAtFirst() {
    KnotArchive x = readings(1, 1, 2);
    x.dispute(0);
    checks.due("call()", x.call(), 3);
    trusts("the 4th is called", x, 11, 11, 9, 10);
  }

  /** "Throws IndexOutOfBoundsException if there is no such witness or cord": for read, at both ends. */
  private void readBothEnds() {
    KnotArchive x = Scenes.beside(2, 2);
    x.tie(0, 3);
    x.tie(1, 4);
    for (int far : new int[] {Integer.MIN_VALUE, -1, 2, 6, 16, Integer.MAX_VALUE}) {
      checks.index("read(" + far + ", 0)", x, () -> x.read(far, 0));
      checks.index("read(0, " + far + ")", x, () -> x.read(0, far));
    }
    checks.due("read(0, 0)", x.read(0, 0), 3);
    checks.due("read(1, 1)", x.read(1, 1), 4);
    checks.due("not read: remembers(0, 1, 2)", x.remembers(0, 1, 2), 0);
    checks.due("not read: remembers(1, 0, 2)", x.remembers(1, 0, 2), 0);
    KnotArchive y = Scenes.beside(16, 6);
    y.tie(15, 9999);
    checks.index("read(6, 15)", y, () -> y.read(6, 15));
    checks.index("read(5, 16)", y, () -> y.read(5, 16));
    checks.due("read(5, 15)", y.read(5, 15), 9999);
    checks.due("remembers(5, 15, 0)", y.remembers(5, 15, 0), 9999);
  }

  /** A cord that says 0 in the year 0 is remembered all the same. */
  private void readNothing() {
    KnotArchive x = Scenes.beside(1, 1);
    checks.due("read(0, 0)", x.read(0, 0), 0);
    int[] due = {0, 0, 1};
    for (int what = 0; what < 3; what++) {
      checks.due("0 in the year 0: remembers(0, 0, " + what + ")", x.remembers(0, 0, what), due[what]);
    }
    checks.due("0 in the year 0: dispute(0)", x.dispute(0), 0);
  }

  /** "remembers for each cord what it said as this one read it last, and in which year" */
  private void remembersTheLastReading() {
    KnotArchive x = Scenes.beside(2, 2);
    Scenes.readAs(x, 0, 0, 9999);
    x.pass(50);
    checks.due("50 years on: remembers(0, 0, 0)", x.remembers(0, 0, 0), 9999);
    checks.due("50 years on: remembers(0, 0, 1)", x.remembers(0, 0, 1), 0);
    Scenes.readAs(x, 0, 0, 1);
    checks.due("less, read later: remembers(0, 0, 0)", x.remembers(0, 0, 0), 1);
    checks.due("less, read later: remembers(0, 0, 1)", x.remembers(0, 0, 1), 50);
    Scenes.readAs(x, 0, 0, 7);
    checks.due("twice a year: remembers(0, 0, 0)", x.remembers(0, 0, 0), 7);
    checks.due("twice a year: remembers(0, 0, 1)", x.remembers(0, 0, 1), 50);
    checks.due("another cord: remembers(0, 1, 2)", x.remembers(0, 1, 2), 0);
    checks.due("another witness: remembers(1, 0, 2)", x.remembers(1, 0, 2), 0);
  }

  /** "(0 and 1: -1 if this one does not remember the cord ...), 2 1 if this one does, else 0" */
  private void remembersNothingYet() {
    KnotArchive x = Scenes.beside(16, 6);
    x.tie(0, 5);
    x.tie(15, 5);
    x.pass(1);
    int[] due = {-1, -1, 0};
    for (int witness : new int[] {0, 5}) {
      for (int cord : new int[] {0, 15}) {
        for (int what = 0; what < 3; what++) {
          checks.due("nothing read: remembers(" + witness + ", " + cord + ", " + what + ")",
              x.remembers(witness, cord, what), due[what]);
        }
      }
    }
  }

  /** The same, for a cord that is hung behind the reading of all others. */
  private void remembersNoLaterCord() {
    KnotArchive x = Scenes.beside(1, 1);
    x.read(0, 0);
    checks.index("no such cord: remembers(0, 1, 2)", x, () -> x.remembers(0, 1, 2));
    x.hang(0, 0);
    int[] due = {-1, -1, 0};
    for (int what = 0; what < 3; what++) {
      checks.due("a later cord: remembers(0, 1, " + what + ")", x.remembers(0, 1, what), due[what]);
    }
    checks.state("a later cord: dispute(1)", x, () -> x.dispute(1));
  }

  /** "the number can be -1, too" */
  private void remembersMinusOne() {
    KnotArchive x = Scenes.bundled(1, 0, 1);
    x.call();
    x.call();
    x.pass(1);
    checks.due("read(0, 0)", x.read(0, 0), -1);
    int[] due = {-1, 1, 1};
    for (int what = 0; what < 3; what++) {
      checks.due("-1 read: remembers(0, 0, " + what + ")", x.remembers(0, 0, what), due[what]);
    }
    checks.due("-1 read: dispute(0)", x.dispute(0), -1);
    trusts("who has not read does not speak with -1", x, 11, 10);
  }

  /** "if there is no such witness or cord, or what is not 0 to 2" */
  private void remembersWhats() {
    KnotArchive x = Scenes.beside(2, 2);
    x.read(1, 1);
    for (int what : new int[] {Integer.MIN_VALUE, -1, 3, Integer.MAX_VALUE}) {
      checks.index("remembers(1, 1, " + what + ")", x, () -> x.remembers(1, 1, what));
      checks.index("not read: remembers(0, 0, " + what + ")", x, () -> x.remembers(0, 0, what));
    }
    for (int far : new int[] {Integer.MIN_VALUE, -1, 2, 6, 16, Integer.MAX_VALUE}) {
      checks.index("remembers(" + far + ", 1, 2)", x, () -> x.remembers(far, 1, 2));
      checks.index("remembers(1, " + far + ", 2)", x, () -> x.remembers(1, far, 2));
    }
    checks.due("remembers(1, 1, 2)", x.remembers(1, 1, 2), 1);
  }

  /** "Throws IndexOutOfBoundsException if there is no such witness": for trust. */
  private void trustBothEnds() {
    KnotArchive nobody = new KnotArchive();
    checks.index("nobody: trust(0)", nobody, () -> nobody.trust(0));
    KnotArchive x = Scenes.beside(0, 2);
    for (int witness : new int[] {Integer.MIN_VALUE, -1, 2, 5, 6, Integer.MAX_VALUE}) {
      checks.index("trust(" + witness + ")", x, () -> x.trust(witness));
    }
    trusts("two", x, 10, 10);
    KnotArchive all = Scenes.beside(0, 6);
    trusts("six", all, 10, 10, 10, 10, 10, 10);
    checks.index("six: trust(6)", all, () -> all.trust(6));
  }

  /** "Those who remember this number have 1 more of trust (at most 20)" */
  private void trustAtMostTwenty() {
    KnotArchive x = readings(3);
    for (int i = 1; i <= 9; i++) {
      checks.due("dispute " + i, x.dispute(0), 3);
    }
    trusts("9 times", x, 19);
    x.dispute(0);
    trusts("10 times", x, 20);
    checks.due("dispute 11", x.dispute(0), 3);
    trusts("11 times", x, 20);
    checks.dueDouble("11 times: mean()", x.mean(), 20);
  }

  /** "the others of those who remember the cord 1 less (at least 0)" */
  private void trustAtLeastZero() {
    KnotArchive x = readings(3, 3, 4);
    for (int i = 1; i <= 9; i++) {
      checks.due("dispute " + i, x.dispute(0), 3);
    }
    trusts("9 times", x, 19, 19, 1);
    x.dispute(0);
    trusts("10 times", x, 20, 20, 0);
    checks.due("dispute 11", x.dispute(0), 3);
    trusts("11 times", x, 20, 20, 0);
  }

  /** The same: from 20 it goes to 19, and from 0 to 1. */
  private void trustBackFromItsEnds() {
    KnotArchive x = readings(3, 3, 4);
    for (int i = 0; i < 12; i++) {
      x.dispute(0);
    }
    Scenes.readAs(x, 1, 0, 4);
    x.pass(1);
    Scenes.readAs(x, 2, 0, 4);
    checks.due("20 + 0 for 4, and later: dispute(0)", x.dispute(0), 4);
    trusts("back from the ends", x, 19, 20, 1);
  }

  /** "Throws IllegalStateException if no witness remembers it"; "IndexOutOfBoundsException if there is no such cord" */
  private void nobodyToDispute() {
    KnotArchive nobody = Scenes.beside(1, 0);
    checks.state("nobody: dispute(0)", nobody, () -> nobody.dispute(0));
    KnotArchive x = Scenes.beside(2, 6);
    checks.state("six who read nothing: dispute(0)", x, () -> x.dispute(0));
    x.read(5, 0);
    checks.state("another cord was read: dispute(1)", x, () -> x.dispute(1));
    for (int cord : new int[] {Integer.MIN_VALUE, -1, 2, 16, Integer.MAX_VALUE}) {
      checks.index("dispute(" + cord + ")", x, () -> x.dispute(cord));
    }
    checks.due("the last of six read it: dispute(0)", x.dispute(0), 0);
    trusts("the last of six read it", x, 10, 10, 10, 10, 10, 11);
    KnotArchive y = Scenes.beside(16, 1);
    Scenes.readAs(y, 0, 15, 8);
    checks.due("the last cord: dispute(15)", y.dispute(15), 8);
    checks.state("none but the last: dispute(14)", y, () -> y.dispute(14));
  }

  /** "the number with the most trust is told": the only one, which need no longer be what the cord says. */
  private void oneAloneIsTold() {
    KnotArchive x = readings(9999);
    x.tie(0, 0);
    checks.due("it says 0 now: dispute(0)", x.dispute(0), 9999);
    checks.due("it says 0 still: cord(0, 3)", x.cord(0, 3), 0);
    trusts("one alone", x, 11);
  }

  /** The same: by 1 of trust, against the later year and the smaller number. */
  private void oneMoreOfTrustTells() {
    for (int more = 0; more < 2; more++) {
      KnotArchive x = Scenes.beside(2, 2);
      gain(x, more, 1);
      Scenes.readAs(x, more, 0, 9);
      x.pass(1);
      Scenes.readAs(x, 1 - more, 0, 2);
      checks.due("11 for 9 against 10: dispute(0)", x.dispute(0), 9);
      checks.due("11 for 9 against 10: trust", x.trust(more), 12);
      checks.due("11 for 9 against 10: trust of the other", x.trust(1 - more), 9);
    }
  }

  /** "those with the same number remembered speak together, with the trust of all of them, added" */
  private void trustIsAddedToTheLast() {
    KnotArchive x = readings(5, 8, 5, 8, 8, 5);
    gain(x, 4, 1);
    checks.due("31 against 30: dispute(0)", x.dispute(0), 8);
    trusts("31 against 30", x, 9, 11, 9, 11, 12, 9);
    KnotArchive y = readings(7, 6, 7);
    gain(y, 1, 10);
    checks.due("20 against 10 + 10, the smaller: dispute(0)", y.dispute(0), 6);
    trusts("20 against 10 + 10", y, 9, 20, 9);
    checks.due("20 against 9 + 9: dispute(0)", y.dispute(0), 6);
    KnotArchive z = readings(7, 6, 7);
    gain(z, 1, 9);
    checks.due("19 against 10 + 10: dispute(0)", z.dispute(0), 7);
    trusts("19 against 10 + 10", z, 11, 18, 11);
  }

  /** "of all witnesses who remember it"; "the others of those who remember the cord": no reading of another cord. */
  private void trustOfThisCordAlone() {
    KnotArchive x = Scenes.beside(2, 4);
    Scenes.readAs(x, 0, 0, 6);
    Scenes.readAs(x, 1, 0, 5);
    x.tie(1, 6);
    x.read(2, 1);
    x.read(3, 1);
    checks.due("10 against 10: dispute(0)", x.dispute(0), 5);
    trusts("10 against 10", x, 9, 11, 10, 10);
  }

  /** "of several the one that one of those who remember it read in the latest year" */
  private void theLatestYear() {
    for (int later = 0; later < 2; later++) {
      KnotArchive x = Scenes.beside(2, 2);
      Scenes.readAs(x, 1 - later, 0, 3);
      x.pass(1);
      Scenes.readAs(x, later, 0, 4);
      checks.due("a year later: dispute(0)", x.dispute(0), 4);
    }
    KnotArchive x = Scenes.beside(2, 4);
    Scenes.readAs(x, 0, 0, 4);
    Scenes.readAs(x, 1, 0, 3);
    x.pass(1);
    Scenes.readAs(x, 2, 0, 3);
    x.pass(1);
    Scenes.readAs(x, 3, 0, 4);
    checks.due("the first and the last year against those between: dispute(0)", x.dispute(0), 4);
    trusts("the first and the last year", x, 11, 9, 9, 11);
  }

  /** The same: a reading of another cord in a later year, and one of less trust, count for nothing. */
  private void theLatestYearIsNotThatOfAnother() {
    KnotArchive x = Scenes.beside(2, 5);
    Scenes.readAs(x, 0, 0, 4);
    Scenes.readAs(x, 1, 0, 4);
    x.pass(1);
    Scenes.readAs(x, 2, 0, 5);
    Scenes.readAs(x, 3, 0, 5);
    x.pass(1);
    Scenes.readAs(x, 0, 1, 4);
    x.pass(1);
    Scenes.readAs(x, 4, 0, 6);
    checks.due("20 of the year 1 against 20 of 0 and 10 of 3: dispute(0)", x.dispute(0), 5);
    trusts("20 of the year 1", x, 9, 9, 11, 11, 9);
  }

  /** The same, with "as this one read it last": an earlier reading of the number is gone. */
  private void theYearIsThatOfTheLastReading() {
    KnotArchive x = readings(4, 5);
    x.pass(1);
    Scenes.readAs(x, 1, 0, 5);
    checks.due("5 was read again: dispute(0)", x.dispute(0), 5);
    KnotArchive y = Scenes.beside(2, 3);
    Scenes.readAs(y, 0, 1, 1);
    Scenes.readAs(y, 2, 1, 1);
    Scenes.readAs(y, 1, 1, 2);
    y.dispute(1);
    trusts("ahead", y, 11, 9, 11);
    Scenes.readAs(y, 0, 0, 5);
    y.pass(1);
    Scenes.readAs(y, 2, 0, 6);
    y.pass(1);
    Scenes.readAs(y, 1, 0, 5);
    Scenes.readAs(y, 1, 0, 9);
    checks.due("5 was read in the year 2 by one who has read 9 since: dispute(0)", y.dispute(0), 6);
    trusts("5 of the year 0, 6 of 1, 9 of 2", y, 10, 8, 12);
  }

  /** "of these the smallest number" */
  private void theSmallestNumber() {
    int[][] orders = {{1, 2, 3}, {1, 3, 2}, {2, 1, 3}, {2, 3, 1}, {3, 1, 2}, {3, 2, 1}};
    for (int[] order : orders) {
      KnotArchive x = readings(order);
      checks.due("1, 2 and 3 of one year: dispute(0)", x.dispute(0), 1);
      for (int witness = 0; witness < 3; witness++) {
        checks.due("1, 2 and 3 of one year: trust", x.trust(witness), order[witness] == 1 ? 11 : 9);
      }
    }
    checks.due("0 and 9999: dispute(0)", readings(9999, 0).dispute(0), 0);
  }

  /** The same, with numbers below 0. */
  private void theSmallestOfNumbersBelowZero() {
    int[][] orders = {{0, 1, 2}, {2, 1, 0}, {1, 2, 0}};
    for (int[] order : orders) {
      KnotArchive x = Scenes.bundled(1, 1, 0);
      for (int witness = 0; witness < 3; witness++) {
        x.call();
        x.tie(2, order[witness]);
        checks.due("read(" + witness + ", 0)", x.read(witness, 0), 1 - order[witness]);
      }
      checks.due("-1, 0 and 1: dispute(0)", x.dispute(0), -1);
    }
  }

  /** "the number with the most trust is told": also where nobody who remembers it has any. */
  private void noTrustAtAll() {
    KnotArchive x = readings(4, 3, 3);
    for (int i = 0; i < 10; i++) {
      x.dispute(0);
    }
    trusts("ahead", x, 0, 20, 20);
    Scenes.readAs(x, 0, 1, 77);
    checks.due("0 of trust alone: dispute(1)", x.dispute(1), 77);
    trusts("0 of trust alone", x, 1, 20, 20);
  }

  /** The same: 1 of trust against 0, which is later and of the smaller number; then 0 against 0. */
  private void zeroTrustAgainstOne() {
    KnotArchive x = Scenes.beside(2, 4);
    Scenes.readAs(x, 0, 0, 1);
    Scenes.readAs(x, 1, 0, 1);
    Scenes.readAs(x, 2, 0, 2);
    Scenes.readAs(x, 3, 0, 3);
    for (int i = 0; i < 10; i++) {
      x.dispute(0);
    }
    trusts("ahead", x, 20, 20, 0, 0);
    Scenes.readAs(x, 2, 1, 9);
    Scenes.readAs(x, 3, 1, 8);
    checks.due("0 against 0: dispute(1)", x.dispute(1), 8);
    trusts("0 against 0", x, 20, 20, 0, 1);
    Scenes.readAs(x, 3, 1, 9);
    x.pass(1);
    Scenes.readAs(x, 2, 1, 7);
    checks.due("1 against 0: dispute(1)", x.dispute(1), 9);
    trusts("1 against 0", x, 20, 20, 0, 2);
  }

  /** All six with one number, up to the most trust that there can be, 120 together. */
  private void allSixOfOneMind() {
    KnotArchive x = readings(8, 8, 8, 8, 8, 8);
    for (int i = 1; i <= 11; i++) {
      int trust = Math.min(10 + i, 20);
      checks.due("dispute " + i, x.dispute(0), 8);
      trusts("dispute " + i, x, trust, trust, trust, trust, trust, trust);
    }
    checks.dueDouble("all: mean()", x.mean(), 20);
  }

  /** Six numbers of six witnesses: the last is told, as the smallest, then as the latest, then as the most trusted. */
  private void sixNumbers() {
    KnotArchive x = readings(16, 15, 14, 13, 12, 11);
    checks.due("the smallest: dispute(0)", x.dispute(0), 11);
    trusts("the smallest", x, 9, 9, 9, 9, 9, 11);
    KnotArchive y = readings(11, 12, 13, 14, 15, 16);
    y.pass(1);
    y.tie(0, 16);
    y.read(5, 0);
    checks.due("the latest: dispute(0)", y.dispute(0), 16);
    KnotArchive z = readings(11, 12, 13, 14, 15, 16);
    gain(z, 5, 1);
    checks.due("the most trusted: dispute(0)", z.dispute(0), 16);
    trusts("the most trusted", z, 9, 9, 9, 9, 9, 12);
  }

  /** A dispute changes trust alone: who is not believed remembers the same, in the same year, and no knot moves. */
  private void disputeForgetsNothing() {
    KnotArchive x = readings(5, 4);
    x.pass(2);
    x.dispute(0);
    int[][] due = {{5, 0, 1}, {4, 0, 1}};
    for (int witness = 0; witness < 2; witness++) {
      for (int what = 0; what < 3; what++) {
        checks.due("disputed: remembers(" + witness + ", 0, " + what + ")", x.remembers(witness, 0, what),
            due[witness][what]);
      }
    }
    checks.due("disputed: cord(0, 3)", x.cord(0, 3), 4);
    checks.due("disputed: cord(0, 7)", x.cord(0, 7), 2);
    checks.due("disputed: count(0)", x.count(0), 2);
  }

  /** "Throws IndexOutOfBoundsException if there is no such untying": none yet, and one that was refused. */
  private void noUntyingYet() {
    KnotArchive x = Scenes.beside(1, 1);
    for (int what = 0; what < 5; what++) {
      int one = what;
      checks.index("none: untying(0, " + what + ")", x, () -> x.untying(0, one));
    }
    checks.state("no knots: untie(0, 0, 0, 1)", x, () -> x.untie(0, 0, 0, 1));
    checks.index("refused: untying(0, 0)", x, () -> x.untying(0, 0));
    checks.due("none: count(4)", x.count(4), 0);
  }

  /** The same, at both ends: of one, and of thirty. */
  private void untyingBothEnds() {
    KnotArchive x = Scenes.beside(16, 6);
    x.tie(15, 9999);
    for (int i = 0; i < 30; i++) {
      int next = i;
      checks.index("not yet: untying(" + i + ", 0)", x, () -> x.untying(next, 0));
      x.untie(i % 6, 15, i / 9, 1);
      x.pass(1);
      if (i % 9 == 8) {
        x.mend(15);
      }
      checks.due("untying(" + i + ", 0)", x.untying(i, 0), i % 6);
      checks.due("untying(" + i + ", 2)", x.untying(i, 2), i / 9);
      checks.due("untying(" + i + ", 4)", x.untying(i, 4), i);
    }
    for (int index : new int[] {Integer.MIN_VALUE, -1, 30, 31, Integer.MAX_VALUE}) {
      checks.index("untying(" + index + ", 0)", x, () -> x.untying(index, 0));
    }
    checks.due("the first: untying(0, 4)", x.untying(0, 4), 0);
    checks.due("the last: untying(29, 4)", x.untying(29, 4), 29);
  }

  /** "or what is not 0 to 4" */
  private void untyingWhats() {
    KnotArchive x = Scenes.beside(2, 2);
    x.tie(1, 9);
    x.pass(5);
    x.untie(1, 1, 3, 8);
    int[] due = {1, 1, 3, 8, 5};
    for (int what = 0; what < 5; what++) {
      checks.due("untying(0, " + what + ")", x.untying(0, what), due[what]);
    }
    for (int what : new int[] {Integer.MIN_VALUE, -1, 5, Integer.MAX_VALUE}) {
      checks.index("untying(0, " + what + ")", x, () -> x.untying(0, what));
    }
    x.tie(1, 9999);
    x.pass(1);
    for (int what = 0; what < 5; what++) {
      checks.due("a year on: untying(0, " + what + ")", x.untying(0, what), due[what]);
    }
  }
}
