/**
 * Each sentence of the document that names a bound of years and of looking: the terms about them, and the promises 14
 * to 21. Above each test stands the sentence that it is for.
 */
public final class YearBoundsTest {
  private static final int[] NO_YEARS = {Integer.MIN_VALUE, -1, 0, 51, Integer.MAX_VALUE};

  private final Checks checks = new Checks("YearBoundsTest");

  public static void main(String[] args) {
    YearBoundsTest test = new YearBoundsTest();
    test.passOneToFifty();
    test.passNothing();
    test.placesWithKnotsFray();
    test.frayOfTen();
    test.frayOfTenByTwo();
    test.theLastKnot();
    test.nineKnotsForAllTheirYears();
    test.passIsYearByYear();
    test.allFull();
    test.thenTheYearIsOneGreater();
    test.countWhats();
    test.countKnots();
    test.countDisagreeing();
    test.countAtTheBeam();
    test.countLostToYearsAlone();
    test.fadesOneToFifty();
    test.fadesBothEndsOfCords();
    test.fadesAtTheTenth();
    test.fadesOfAllBehindIt();
    test.fadesChangesNothing();
    test.amendsZeroToTheGreatest();
    test.amendsWhatAgrees();
    test.amendsByDigits();
    test.amendsBothEndsOfCords();
    test.weighsNoCord();
    test.weighsFewerThanNine();
    test.weighsThePlaceThreeAlone();
    test.weighsNoneThatChanges();
    test.weighsTheLast();
    test.weighsTheSmallestOfSeveral();
    test.weighsWithoutTheSign();
    test.lineBothEndsOfCords();
    test.meanOfNone();
    test.meanIsNotCut();
    test.checks.end();
  }

  // Promise 14, and what the terms say of a year

  /** "Throws IllegalArgumentException if years is not 1 to 50" */
  private void passOneToFifty() {
    KnotArchive x = Scenes.single(0, 9999);
    for (int years : NO_YEARS) {
      checks.argument("pass(" + years + ")", x, () -> x.pass(years));
    }
    checks.due("pass(1)", x.pass(1), 0);
    checks.due("pass(1): count(0)", x.count(0), 1);
    checks.due("pass(50)", x.pass(50), 20);
    checks.due("pass(50): count(0)", x.count(0), 51);
    checks.due("51 years: cord(0, 2)", x.cord(0, 2), 4444);
    checks.due("51 years: cord(0, 7)", x.cord(0, 7), 4);
  }

  /** "Returns how many knots are lost in them.": nothing there to be lost. */
  private void passNothing() {
    KnotArchive none = new KnotArchive();
    checks.due("no cord: pass(50)", none.pass(50), 0);
    checks.due("no cord: count(0)", none.count(0), 50);
    checks.due("no cord: count(7)", none.count(7), 0);
    KnotArchive x = Scenes.beside(16, 0);
    checks.due("no knot: pass(50)", x.pass(50), 0);
    checks.due("no knot: cord(15, 7)", x.cord(15, 7), 0);
    checks.due("no knot: count(7)", x.count(7), 0);
    x.tie(15, 1);
    checks.due("years without a knot do not fray it: pass(9)", x.pass(9), 0);
    checks.due("the 10th with it: pass(1)", x.pass(1), 1);
  }

  /** "each place with knots frays by 1, and by 1 more on a cord of the strand 2 or 4": from one knot on, no other. */
  private void placesWithKnotsFray() {
    int[] step = {1, 1, 2, 1, 2};
    for (int strand = 0; strand <= 4; strand++) {
      KnotArchive x = Scenes.single(strand, 1090);
      x.pass(1);
      int[] due = {step[strand], 0, step[strand], 0};
      for (int place = 0; place < 4; place++) {
        checks.due("strand " + strand + ": place(0, " + place + ", 1)", x.place(0, place, 1), due[place]);
      }
      x.tie(x.hang(0, (strand + 1) % 5), 1);
      x.pass(1);
      checks.due("its own strand, not that of the cord over it: place(1, 3, 1)", x.place(1, 3, 1),
          step[(strand + 1) % 5]);
      checks.due("nor that of the cord under it: place(0, 0, 1)", x.place(0, 0, 1), 2 * step[strand]);
    }
  }

  /** "with a fray of 10 or more a knot is lost, and the fray is 0 again": 9, 10, and the year behind it. */
  private void frayOfTen() {
    for (int strand : new int[] {0, 1, 3}) {
      KnotArchive x = Scenes.single(strand, 2);
      checks.due("strand " + strand + ": pass(9)", x.pass(9), 0);
      checks.due("9: place(0, 3, 1)", x.place(0, 3, 1), 9);
      checks.due("9: place(0, 3, 0)", x.place(0, 3, 0), 2);
      checks.due("the 10th: pass(1)", x.pass(1), 1);
      checks.due("10: place(0, 3, 1)", x.place(0, 3, 1), 0);
      checks.due("10: place(0, 3, 0)", x.place(0, 3, 0), 1);
      checks.due("the 11th: pass(1)", x.pass(1), 0);
      checks.due("11: place(0, 3, 1)", x.place(0, 3, 1), 1);
    }
  }

  /** The same by 2 a year: 8, 10, and the year behind it. */
  private void frayOfTenByTwo() {
    for (int strand : new int[] {2, 4}) {
      KnotArchive x = Scenes.single(strand, 2);
      checks.due("strand " + strand + ": pass(4)", x.pass(4), 0);
      checks.due("8: place(0, 3, 1)", x.place(0, 3, 1), 8);
      checks.due("8: place(0, 3, 0)", x.place(0, 3, 0), 2);
      checks.due("the 5th: pass(1)", x.pass(1), 1);
      checks.due("10: place(0, 3, 1)", x.place(0, 3, 1), 0);
      checks.due("10: place(0, 3, 0)", x.place(0, 3, 0), 1);
      checks.due("the 6th: pass(1)", x.pass(1), 0);
      checks.due("12: place(0, 3, 1)", x.place(0, 3, 1), 2);
    }
  }

  /** The same, with the last knot of a place: behind it nothing frays, and nothing more is lost. */
  private void theLastKnot() {
    KnotArchive x = Scenes.single(0, 1000);
    checks.due("the last: pass(10)", x.pass(10), 1);
    checks.due("the last: cord(0, 2)", x.cord(0, 2), 0);
    checks.due("the last: cord(0, 7)", x.cord(0, 7), 0);
    checks.due("behind it: pass(50)", x.pass(50), 0);
    checks.due("behind it: cord(0, 2)", x.cord(0, 2), 0);
    checks.due("behind it: cord(0, 7)", x.cord(0, 7), 0);
    checks.due("behind it: count(7)", x.count(7), 1);
  }

  /** The same, for all knots of a full place: one each 10 years, or each 5, to the end. */
  private void nineKnotsForAllTheirYears() {
    int[] years = {10, 10, 5, 10, 5};
    for (int strand = 0; strand <= 4; strand++) {
      KnotArchive x = Scenes.single(strand, 9);
      for (int left = 8; left >= 0; left--) {
        checks.due("strand " + strand + ", " + left + " left: pass", x.pass(years[strand]), 1);
        checks.due("strand " + strand + ", " + left + " left: cord(0, 2)", x.cord(0, 2), left);
      }
      checks.due("strand " + strand + ", none left: pass", x.pass(years[strand]), 0);
      checks.due("strand " + strand + ": count(7)", x.count(7), 9);
    }
  }

  /** "A year goes like this": many at once are as many one by one. */
  private void passIsYearByYear() {
    KnotArchive atOnce = Scenes.full();
    KnotArchive oneByOne = Scenes.full();
    int lost = 0;
    for (int year = 0; year < 50; year++) {
      lost += oneByOne.pass(1);
    }
    checks.due("full: pass(50)", atOnce.pass(50), lost);
    checks.due("full, 50 years: digest()", atOnce.digest(), oneByOne.digest());
  }

  /** The same: the most knots that there can be, 16 * 36, and the most that can be lost in a year. */
  private void allFull() {
    KnotArchive x = Scenes.beside(16, 0);
    for (int cord = 0; cord < 16; cord++) {
      x.tie(cord, 9999);
    }
    checks.due("all full: count(3)", x.count(3), 576);
    checks.due("all full: pass(9)", x.pass(9), 0);
    checks.due("all full: pass(1)", x.pass(1), 64);
    checks.due("all full: count(3) then", x.count(3), 512);
    checks.due("all full: pass(50)", x.pass(50), 320);
    checks.due("all full: pass(50) again", x.pass(50), 192);
    checks.due("all lost: count(7)", x.count(7), 576);
    checks.due("all lost: count(3)", x.count(3), 0);
    checks.due("all lost: count(6)", x.count(6), 0);
  }

  /** "Then the year is 1 greater."; "Time is told in years, from 0." */
  private void thenTheYearIsOneGreater() {
    KnotArchive x = Scenes.beside(1, 1);
    x.tie(0, 9999);
    int year = 0;
    for (int years : new int[] {1, 50, 49, 1, 2}) {
      x.read(0, 0);
      checks.due("read: remembers(0, 0, 1)", x.remembers(0, 0, 1), year);
      x.pass(years);
      year += years;
      checks.due("passed: count(0)", x.count(0), year);
    }
    x.tie(0, 1);
    x.untie(0, 0, 3, 1);
    checks.due("untied: untying(0, 4)", x.untying(0, 4), 103);
  }

  // Promise 15

  /** "Throws IndexOutOfBoundsException if what is not 0 to 7" */
  private void countWhats() {
    KnotArchive none = new KnotArchive();
    KnotArchive x = Scenes.full();
    for (int what : new int[] {Integer.MIN_VALUE, -1, 8, Integer.MAX_VALUE}) {
      checks.index("new: count(" + what + ")", none, () -> none.count(what));
      checks.index("full: count(" + what + ")", x, () -> x.count(what));
    }
    checks.due("full: count(0)", x.count(0), 3);
    checks.due("full: count(1)", x.count(1), 16);
    checks.due("full: count(2)", x.count(2), 6);
    checks.due("full: count(4)", x.count(4), 30);
    checks.due("full: count(7)", x.count(7), 0);
  }

  /** "3 all knots": of the first and the last cord, at the first and the last place. */
  private void countKnots() {
    KnotArchive x = Scenes.beside(16, 0);
    checks.due("none: count(3)", x.count(3), 0);
    x.tie(15, 1);
    checks.due("one: count(3)", x.count(3), 1);
    x.tie(0, 9000);
    checks.due("ten: count(3)", x.count(3), 10);
    x.tie(0, 0);
    checks.due("tied to 0: count(3)", x.count(3), 1);
  }

  /** "5 cords that do not agree": none, those from which nothing hangs not among them, and all that can. */
  private void countDisagreeing() {
    KnotArchive x = Scenes.beside(16, 0);
    for (int cord = 0; cord < 16; cord++) {
      x.tie(cord, 5);
    }
    checks.due("nothing hangs from any: count(5)", x.count(5), 0);
    KnotArchive y = new KnotArchive();
    for (int cord = 0; cord < 16; cord++) {
      y.hang(cord - 1, 0);
    }
    checks.due("0 for 0 in a chain: count(5)", y.count(5), 0);
    y.tie(15, 1);
    checks.due("1 at the end of a chain: count(5)", y.count(5), 15);
  }

  /** "6 what all cords at the beam say, added": none, one, 16 of them, and no cord that hangs from one. */
  private void countAtTheBeam() {
    checks.due("none: count(6)", new KnotArchive().count(6), 0);
    KnotArchive x = Scenes.bundled(2, 10, 30, 20);
    x.tie(0, 4);
    checks.due("one with three: count(6)", x.count(6), 34);
    Scenes.bundle(x, -1, 1, 0, 40);
    checks.due("34 and -40: count(6)", x.count(6), -6);
    KnotArchive y = Scenes.beside(16, 0);
    for (int cord = 0; cord < 16; cord++) {
      y.tie(cord, 9999);
    }
    checks.due("16: count(6)", y.count(6), 159984);
  }

  /** "7 knots that were lost to years in all": no knot that is untied, tied away or only told of. */
  private void countLostToYearsAlone() {
    KnotArchive x = Scenes.beside(1, 1);
    x.tie(0, 9999);
    x.untie(0, 0, 0, 9);
    x.tie(0, 1);
    x.fades(0, 50);
    checks.due("none: count(7)", x.count(7), 0);
    x.pass(10);
    checks.due("one: count(7)", x.count(7), 1);
    x.tie(0, 11);
    x.pass(10);
    checks.due("two more: count(7)", x.count(7), 3);
    x.tie(0, 9999);
    checks.due("tied anew: count(7)", x.count(7), 3);
  }

  // Promise 16

  /** "how many, 1 to 50"; "Throws IllegalArgumentException if years is not 1 to 50" */
  private void fadesOneToFifty() {
    KnotArchive x = Scenes.single(0, 9999);
    x.pass(9);
    for (int years : NO_YEARS) {
      checks.argument("fades(0, " + years + ")", x, () -> x.fades(0, years));
    }
    checks.due("fades(0, 1)", x.fades(0, 1), 8888);
    checks.due("fades(0, 50)", x.fades(0, 50), 4444);
  }

  /** "Throws IndexOutOfBoundsException if there is no such cord": for fades. */
  private void fadesBothEndsOfCords() {
    KnotArchive x = Scenes.beside(16, 0);
    x.tie(0, 1);
    x.tie(15, 2);
    for (int cord : new int[] {Integer.MIN_VALUE, -1, 16, Integer.MAX_VALUE}) {
      checks.index("fades(" + cord + ", 1)", x, () -> x.fades(cord, 1));
    }
    checks.due("fades(0, 1)", x.fades(0, 1), 1);
    checks.due("fades(15, 1)", x.fades(15, 1), 2);
    checks.due("fades(0, 10)", x.fades(0, 10), 0);
    checks.due("fades(15, 10)", x.fades(15, 10), 1);
    KnotArchive y = Scenes.beside(2, 0);
    checks.index("two cords: fades(2, 1)", y, () -> y.fades(2, 1));
  }

  /** "what it says behind so many years": one year less and one more than what takes a knot, for each strand. */
  private void fadesAtTheTenth() {
    int[] years = {10, 10, 5, 10, 5};
    for (int strand = 0; strand <= 4; strand++) {
      KnotArchive x = Scenes.single(strand, 1002);
      checks.due("strand " + strand + ", a year less: fades", x.fades(0, years[strand] - 1), 1002);
      checks.due("strand " + strand + ", just then: fades", x.fades(0, years[strand]), 1);
      checks.due("strand " + strand + ", before the next: fades", x.fades(0, 2 * years[strand] - 1), 1);
      checks.due("strand " + strand + ", the last: fades", x.fades(0, 2 * years[strand]), 0);
      checks.due("strand " + strand + ", behind it: fades", x.fades(0, 50), 0);
    }
  }

  /** The same, with all that hangs from it, which fades as its own strands tell; and with a cord without knots. */
  private void fadesOfAllBehindIt() {
    KnotArchive x = new KnotArchive();
    x.hang(-1, 0);
    x.tie(x.hang(0, 4), 2);
    x.tie(x.hang(1, 0), 3);
    x.tie(x.hang(1, 1), 7);
    // The 2 are lost in the years 5 and 10, and a knot of the 3 and of the 7 each 10 years.
    int[] due = {23, 22, 22, 12, 12, 5, 5, 0};
    int[] years = {4, 5, 9, 10, 19, 20, 29, 30};
    for (int i = 0; i < years.length; i++) {
      checks.due("2 + 3 * 7: fades(0, " + years[i] + ")", x.fades(0, years[i]), due[i]);
    }
    checks.due("now: cord(0, 3)", x.cord(0, 3), 23);
    KnotArchive none = Scenes.beside(1, 0);
    checks.due("no knots: fades(0, 50)", none.fades(0, 50), 0);
  }

  /** "(nothing is changed)": in a full archive, by the shortest and the longest look. */
  private void fadesChangesNothing() {
    KnotArchive x = Scenes.full();
    long before = x.digest();
    for (int cord = 0; cord < 16; cord++) {
      x.fades(cord, 1);
      x.fades(cord, 50);
    }
    x.weighs();
    checks.due("looked at: digest()", x.digest(), before);
    int said = x.fades(0, 50);
    x.pass(50);
    checks.due("as told: cord(0, 3)", x.cord(0, 3), said);
  }

  // Promise 17

  private void amends(int digits, int counted, int want) {
    KnotArchive x = new KnotArchive();
    x.hang(-1, counted < 0 ? 1 : 0);
    x.tie(0, digits);
    x.tie(x.hang(0, 0), counted < 0 ? 0 : Math.min(counted, 9999));
    x.tie(x.hang(0, 0), counted < 0 ? -counted : counted - Math.min(counted, 9999));
    checks.due("counted: cord(0, 4)", x.cord(0, 4), counted);
    checks.due(digits + " for " + counted + ": amends(0)", x.amends(0), want);
  }

  /** "-1 if what is counted of those that hang from it is not 0 to 9999" */
  private void amendsZeroToTheGreatest() {
    for (int digits : new int[] {0, 9999}) {
      amends(digits, -9999, -1);
      amends(digits, -1, -1);
      amends(digits, 0, digits == 0 ? 0 : 36);
      amends(digits, 9999, digits == 0 ? 36 : 0);
      amends(digits, 10000, -1);
      amends(digits, 19998, -1);
    }
    amends(9998, 9999, 1);
    amends(1, 0, 1);
  }

  /** "0 if it agrees": also a cord from which nothing hangs, whatever its digits are. */
  private void amendsWhatAgrees() {
    for (int strand = 0; strand <= 4; strand++) {
      checks.due("nothing hangs, strand " + strand + ": amends(0)", Scenes.single(strand, 9999).amends(0), 0);
      checks.due("nothing hangs from 0: amends(0)", Scenes.single(strand, 0).amends(0), 0);
    }
    amends(4321, 4321, 0);
  }

  /** "the differences of the digits at each place, added": not the difference of the numbers. */
  private void amendsByDigits() {
    amends(1000, 999, 28);
    amends(999, 1000, 28);
    amends(9090, 909, 36);
    amends(5000, 4000, 1);
    amends(500, 400, 1);
    amends(50, 40, 1);
    amends(5, 4, 1);
    amends(4, 5, 1);
  }

  /** "Throws IndexOutOfBoundsException if there is no such cord": for amends and line. */
  private void amendsBothEndsOfCords() {
    KnotArchive x = Scenes.bundled(0, 5);
    for (int cord : new int[] {Integer.MIN_VALUE, -1, 2, 16, Integer.MAX_VALUE}) {
      checks.index("amends(" + cord + ")", x, () -> x.amends(cord));
      checks.index("line(" + cord + ")", x, () -> x.line(cord));
    }
    checks.due("amends(0)", x.amends(0), 5);
    checks.due("amends(1)", x.amends(1), 0);
    KnotArchive y = new KnotArchive();
    for (int cord = 0; cord < 16; cord++) {
      y.hang(cord - 1, 0);
    }
    y.tie(15, 8);
    checks.due("the last but one of 16: amends(14)", y.amends(14), 8);
    checks.due("the last of 16: amends(15)", y.amends(15), 0);
    checks.index("16: amends(16)", y, () -> y.amends(16));
    checks.index("16: line(16)", y, () -> y.line(16));
  }

  // Promise 18

  /** "-1 if there is none that changes it, or no cord" */
  private void weighsNoCord() {
    KnotArchive x = new KnotArchive();
    checks.due("no cord: weighs()", x.weighs(), -1);
    x.call();
    x.pass(50);
    checks.due("no cord in the year 50: weighs()", x.weighs(), -1);
    x.hang(-1, 4);
    checks.due("a cord: weighs()", x.weighs(), 0);
  }

  /** "(if there are fewer than 9)": 8 and 9, for the cord 0 and for one that hangs from it. */
  private void weighsFewerThanNine() {
    checks.due("8: weighs()", Scenes.single(0, 8).weighs(), 0);
    checks.due("9: weighs()", Scenes.single(0, 9).weighs(), -1);
    KnotArchive x = Scenes.bundled(4, 8, 7);
    checks.due("8 and 7: weighs()", x.weighs(), 2);
    x.tie(2, 9);
    checks.due("8 and 9: weighs()", x.weighs(), 1);
    x.tie(1, 9);
    checks.due("9 and 9: weighs()", x.weighs(), 0);
    x.tie(0, 9);
    checks.due("9 with 9 and 9: weighs()", x.weighs(), -1);
  }

  /** "a knot more at the place 3": full places elsewhere do not hinder, and it counts for 1 there. */
  private void weighsThePlaceThreeAlone() {
    KnotArchive x = Scenes.bundled(4, 9990, 9998);
    checks.due("a knot at 9990 is worth 9998: weighs()", x.weighs(), 1);
    x.tie(1, 9999);
    checks.due("none at 9999: weighs()", x.weighs(), 2);
    KnotArchive y = Scenes.bundled(2, 10, 11);
    y.tie(0, 9);
    checks.due("the greatest of 10 and 11, one knot more: weighs()", y.weighs(), 2);
    y.tie(2, 19);
    checks.due("the greatest of 10 and 19, none more: weighs()", y.weighs(), -1);
  }

  /** "-1 if there is none that changes it": cords that could have a knot more, but are not told in the cord 0. */
  private void weighsNoneThatChanges() {
    KnotArchive x = Scenes.beside(16, 0);
    x.tie(0, 9);
    checks.due("15 beside it: weighs()", x.weighs(), -1);
    KnotArchive y = Scenes.bundled(4, 0, 0);
    y.tie(0, 9);
    checks.due("1 * 0 is no more than 0 * 0: weighs()", y.weighs(), -1);
    y.tie(1, 1);
    checks.due("1 * 1 is: weighs()", y.weighs(), 2);
    KnotArchive z = Scenes.bundled(3, 1, 1);
    z.tie(0, 9);
    checks.due("both say more than 0 as they are: weighs()", z.weighs(), -1);
    z.tie(2, 0);
    checks.due("one does not: weighs()", z.weighs(), 2);
  }

  /** "Looks for the cord": the last of 16, at the end of a chain, and the last of those at the cord 0. */
  private void weighsTheLast() {
    KnotArchive x = new KnotArchive();
    for (int cord = 0; cord < 16; cord++) {
      x.tie(x.hang(cord - 1, 0), cord == 15 ? 8 : 9);
    }
    checks.due("the last of 16: weighs()", x.weighs(), 15);
    x.tie(15, 9);
    checks.due("all are full: weighs()", x.weighs(), -1);
    KnotArchive y = Scenes.bundled(4, 10, 10, 10, 10, 10, 9);
    checks.due("the last of 6 is full: weighs()", y.weighs(), 1);
    y.tie(6, 8);
    checks.due("the last of 6 is the least: weighs()", y.weighs(), 6);
  }

  /** "of several the one with the smallest number" */
  private void weighsTheSmallestOfSeveral() {
    KnotArchive x = Scenes.beside(1, 0);
    for (int cord = 1; cord < 16; cord++) {
      x.hang(cord <= 6 ? 0 : cord - 6, 0);
    }
    for (int cord = 0; cord < 16; cord++) {
      checks.due("all from " + cord + " on are the same: weighs()", x.weighs(), cord);
      x.tie(cord, 9);
    }
    checks.due("none is left: weighs()", x.weighs(), -1);
    KnotArchive y = Scenes.bundled(4, 10, 10, 10);
    checks.due("10 * 10 each: weighs()", y.weighs(), 1);
  }

  /** "by the difference of both numbers ..., without its sign": a change down is as great as one up. */
  private void weighsWithoutTheSign() {
    KnotArchive x = Scenes.bundled(1, 9, 0);
    checks.due("1 up at the cord 0, 1 down at the cord 2: weighs()", x.weighs(), 0);
    x.tie(0, 9);
    checks.due("1 down at the cord 2 alone: weighs()", x.weighs(), 2);
    KnotArchive y = new KnotArchive();
    y.hang(-1, 1);
    y.hang(0, 0);
    Scenes.bundle(y, 0, 4, 2, 7);
    checks.due("7 down at the cord 3, 1 up elsewhere: weighs()", y.weighs(), 3);
  }

  // Promises 19 and 20

  /** "Throws IndexOutOfBoundsException if there is no such cord": for line, with the shortest and the longest text. */
  private void lineBothEndsOfCords() {
    KnotArchive none = new KnotArchive();
    checks.index("none: line(0)", none, () -> none.line(0));
    KnotArchive x = Scenes.beside(15, 0);
    x.tie(x.hang(-1, 4), 9999);
    checks.due("0:0:0: line(0)", x.line(0), "0:0:0".hashCode());
    checks.due("9:0:0: line(9)", x.line(9), "9:0:0".hashCode());
    checks.due("10:0:0: line(10)", x.line(10), "10:0:0".hashCode());
    checks.due("15:4:9999: line(15)", x.line(15), "15:4:9999".hashCode());
    int[] numbers = {1, 9, 10, 99, 100, 999, 1000};
    for (int number : numbers) {
      x.tie(0, number);
      checks.due("line(0) of " + number, x.line(0), ("0:0:" + number).hashCode());
    }
    checks.index("16: line(16)", x, () -> x.line(16));
  }

  /** "0 if there are none" */
  private void meanOfNone() {
    KnotArchive x = Scenes.beside(16, 0);
    checks.dueDouble("none: mean()", x.mean(), 0.0);
    x.call();
    checks.dueDouble("one: mean()", x.mean(), 10.0);
  }

  /** "Returns the mean trust of all witnesses": not cut, up to six of them, with 0 and with 20 among them. */
  private void meanIsNotCut() {
    KnotArchive x = Scenes.beside(1, 6);
    Scenes.readAs(x, 0, 0, 1);
    Scenes.readAs(x, 1, 0, 1);
    Scenes.readAs(x, 5, 0, 2);
    x.dispute(0);
    checks.dueDouble("11, 11, 10, 10, 10 and 9: mean()", x.mean(), 61.0 / 6.0);
    for (int i = 0; i < 9; i++) {
      x.dispute(0);
    }
    checks.dueDouble("20, 20, 10, 10, 10 and 0: mean()", x.mean(), 70.0 / 6.0);
    KnotArchive y = Scenes.beside(1, 2);
    Scenes.readAs(y, 1, 0, 1);
    y.dispute(0);
    checks.dueDouble("10 and 11: mean()", y.mean(), 10.5);
  }
}
