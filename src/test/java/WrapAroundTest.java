import java.math.BigInteger;

/**
 * "Sums, differences and products wrap around as 32-bit integers", wherever the document adds, subtracts or multiplies;
 * what it says not to wrap around; and its checksums, which are reckoned here in numbers without a bound.
 */
public final class WrapAroundTest {
  private static final int MIN = Integer.MIN_VALUE;
  private static final int MAX = Integer.MAX_VALUE;
  private static final BigInteger STEP = BigInteger.valueOf(31);

  private final Checks checks = new Checks("WrapAroundTest");

  public static void main(String[] args) {
    WrapAroundTest test = new WrapAroundTest();
    test.product();
    test.productOfSix();
    test.sumOfWhatHangs();
    test.difference();
    test.greatest();
    test.moreThanZero();
    test.digitsAndCounted();
    test.agreesAllAround();
    test.amendsAllAround();
    test.beam();
    test.readAndDispute();
    test.fades();
    test.weighsTheGreatestChange();
    test.weighsAtMost();
    test.weighsJustTheMost();
    test.weighsAround();
    test.line();
    test.digestOfNothing();
    test.digestOfAll();
    test.checks.end();
  }

  private static KnotArchive multiplied(int... factors) {
    return Scenes.bundled(4, factors);
  }

  private static int wrapped(int... factors) {
    BigInteger product = BigInteger.ONE;
    for (int factor : factors) {
      product = product.multiply(BigInteger.valueOf(factor));
    }
    return product.intValue();
  }

  /** A product at the greatest 32-bit integer, just beyond it, and all around. */
  private void product() {
    checks.due("one less: cord(0, 4)", multiplied(Scenes.ONE_LESS_THAN_THE_GREATEST).cord(0, 4), MAX - 1);
    checks.due("one more: cord(0, 4)", multiplied(Scenes.THE_SMALLEST).cord(0, 4), MIN);
    checks.due("all around: cord(0, 4)", multiplied(Scenes.ALL_AROUND).cord(0, 4), 0);
    checks.due("46341 * 46341, as 15447 * 3 twice: cord(0, 4)", multiplied(5149, 9, 5149, 9).cord(0, 4),
        wrapped(5149, 9, 5149, 9));
    KnotArchive x = new KnotArchive();
    x.hang(-1, 4);
    Scenes.bundle(x, 0, 1, 0, 1);
    Scenes.bundle(x, 0, 4, Scenes.THE_SMALLEST);
    checks.due("-1 * -2147483648: cord(0, 4)", x.cord(0, 4), MIN);
  }

  private void productOfSix() {
    int[] most = {9999, 9999, 9999, 9999, 9999, 9999};
    checks.due("9999 six times: cord(0, 4)", multiplied(most).cord(0, 4), wrapped(most));
    int[] odd = {9999, 9997, 9993, 9991, 3};
    checks.due("five odd factors: cord(0, 4)", multiplied(odd).cord(0, 4), wrapped(odd));
  }

  /** The strand 0, up over the greatest, and down under the smallest. */
  private void sumOfWhatHangs() {
    KnotArchive x = new KnotArchive();
    x.hang(-1, 0);
    Scenes.bundle(x, 0, 4, Scenes.ONE_LESS_THAN_THE_GREATEST);
    int other = x.hang(0, 0);
    int[] numbers = {0, 1, 2, 9999};
    int[] due = {MAX - 1, MAX, MIN, MIN + 9997};
    for (int i = 0; i < numbers.length; i++) {
      x.tie(other, numbers[i]);
      checks.due("2147483646 + " + numbers[i] + ": cord(0, 4)", x.cord(0, 4), due[i]);
    }
    KnotArchive y = new KnotArchive();
    y.hang(-1, 0);
    Scenes.bundle(y, 0, 4, Scenes.THE_SMALLEST);
    Scenes.bundle(y, 0, 1, 0, 1);
    checks.due("-2147483648 + -1: cord(0, 4)", y.cord(0, 4), MAX);
    Scenes.bundle(y, 0, 4, Scenes.THE_SMALLEST);
    checks.due("twice -2147483648, less 1: cord(0, 4)", y.cord(0, 4), -1);
  }

  /** The strand 1, down under the smallest, and up over the greatest. */
  private void difference() {
    KnotArchive x = new KnotArchive();
    x.hang(-1, 1);
    Scenes.bundle(x, 0, 4, Scenes.THE_SMALLEST);
    int other = x.hang(0, 0);
    checks.due("-2147483648 - 0: cord(0, 4)", x.cord(0, 4), MIN);
    x.tie(other, 1);
    checks.due("-2147483648 - 1: cord(0, 4)", x.cord(0, 4), MAX);
    x.tie(other, 9999);
    checks.due("-2147483648 - 9999: cord(0, 4)", x.cord(0, 4), MAX - 9998);
    KnotArchive y = new KnotArchive();
    y.hang(-1, 1);
    y.hang(0, 0);
    Scenes.bundle(y, 0, 4, Scenes.THE_SMALLEST);
    checks.due("0 - -2147483648: cord(0, 4)", y.cord(0, 4), MIN);
    y.tie(1, 1);
    checks.due("1 - -2147483648: cord(0, 4)", y.cord(0, 4), MIN + 1);
  }

  /** The strand 2 looks for the greatest of what has wrapped around, however far apart the numbers are. */
  private void greatest() {
    KnotArchive x = new KnotArchive();
    x.hang(-1, 2);
    int low = Scenes.bundle(x, 0, 4, Scenes.THE_SMALLEST);
    checks.due("-2147483648 alone: cord(0, 4)", x.cord(0, 4), MIN);
    int high = Scenes.bundle(x, 0, 4, Scenes.ONE_LESS_THAN_THE_GREATEST);
    checks.due("2147483646 against the smallest: cord(0, 4)", x.cord(0, 4), MAX - 1);
    x.tie(high, 1);
    checks.due("2147483647 against the smallest: cord(0, 4)", x.cord(0, 4), MAX);
    x.tie(high, 2);
    checks.due("both the smallest: cord(0, 4)", x.cord(0, 4), MIN);
    x.tie(low, 1);
    checks.due("one more against the smallest: cord(0, 4)", x.cord(0, 4), MIN + 1);
    x.hang(0, 0);
    checks.due("0 against both: cord(0, 4)", x.cord(0, 4), 0);
  }

  /** The strand 3 counts what says more than 0 when it has wrapped around. */
  private void moreThanZero() {
    KnotArchive x = new KnotArchive();
    x.hang(-1, 3);
    Scenes.bundle(x, 0, 4, Scenes.THE_SMALLEST);
    checks.due("-2147483648: cord(0, 4)", x.cord(0, 4), 0);
    int around = Scenes.bundle(x, 0, 4, Scenes.ALL_AROUND);
    checks.due("and 0, all around: cord(0, 4)", x.cord(0, 4), 0);
    x.tie(around, 1);
    checks.due("and 1: cord(0, 4)", x.cord(0, 4), 1);
    int high = Scenes.bundle(x, 0, 4, Scenes.ONE_LESS_THAN_THE_GREATEST);
    x.tie(high, 1);
    checks.due("and 2147483647: cord(0, 4)", x.cord(0, 4), 2);
    x.tie(high, 2);
    checks.due("which is wrapped around: cord(0, 4)", x.cord(0, 4), 1);
  }

  /** "A cord says its digits and what is counted of the cords that hang from it, added." */
  private void digitsAndCounted() {
    KnotArchive x = multiplied(Scenes.ONE_LESS_THAN_THE_GREATEST);
    int[] digits = {0, 1, 2, 9999};
    int[] due = {MAX - 1, MAX, MIN, MIN + 9997};
    for (int i = 0; i < digits.length; i++) {
      x.tie(0, digits[i]);
      checks.due(digits[i] + " + 2147483646: cord(0, 3)", x.cord(0, 3), due[i]);
      checks.due("counted: cord(0, 4)", x.cord(0, 4), MAX - 1);
    }
  }

  /** "or its digits are what is counted of these", which has wrapped around. */
  private void agreesAllAround() {
    KnotArchive x = multiplied(Scenes.ALL_AROUND);
    checks.due("0 for 2 to the 32nd: cord(0, 6)", x.cord(0, 6), 1);
    checks.due("0 for 2 to the 32nd: count(5)", x.count(5), 0);
    x.tie(0, 1);
    checks.due("1 for 2 to the 32nd: cord(0, 6)", x.cord(0, 6), 0);
    checks.due("1 for 2 to the 32nd: count(5)", x.count(5), 1);
    KnotArchive y = new KnotArchive();
    y.hang(-1, 0);
    y.tie(Scenes.bundle(y, 0, 4, Scenes.ALL_AROUND), 9999);
    y.tie(0, 9999);
    checks.due("9999 for 9999 and all around: cord(0, 6)", y.cord(0, 6), 1);
  }

  /** "-1 if what is counted ... is not 0 to 9999", which has wrapped around. */
  private void amendsAllAround() {
    KnotArchive x = multiplied(Scenes.ALL_AROUND);
    checks.due("0 for 2 to the 32nd: amends(0)", x.amends(0), 0);
    x.tie(0, 1203);
    checks.due("1203 for 2 to the 32nd: amends(0)", x.amends(0), 6);
    checks.due("for -2147483648: amends(0)", multiplied(Scenes.THE_SMALLEST).amends(0), -1);
    checks.due("for 2147483646: amends(0)", multiplied(Scenes.ONE_LESS_THAN_THE_GREATEST).amends(0), -1);
  }

  /** "6 what all cords at the beam say, added" */
  private void beam() {
    KnotArchive x = multiplied(Scenes.ONE_LESS_THAN_THE_GREATEST);
    int other = x.hang(-1, 0);
    int[] numbers = {0, 1, 2, 9999};
    int[] due = {MAX - 1, MAX, MIN, MIN + 9997};
    for (int i = 0; i < numbers.length; i++) {
      x.tie(other, numbers[i]);
      checks.due("2147483646 and " + numbers[i] + ": count(6)", x.count(6), due[i]);
    }
    KnotArchive y = multiplied(Scenes.THE_SMALLEST);
    Scenes.bundle(y, -1, 4, Scenes.THE_SMALLEST);
    checks.due("twice -2147483648: count(6)", y.count(6), 0);
    Scenes.bundle(y, -1, 1, 0, 1);
    Scenes.bundle(y, -1, 4, Scenes.THE_SMALLEST);
    checks.due("three times, and -1: count(6)", y.count(6), MAX);
  }

  /** The smallest and the greatest number that a cord can say are read, remembered and told. */
  private void readAndDispute() {
    KnotArchive x = multiplied(Scenes.ONE_LESS_THAN_THE_GREATEST);
    x.call();
    x.call();
    x.call();
    x.tie(0, 1);
    checks.due("read(0, 0)", x.read(0, 0), MAX);
    x.tie(0, 2);
    checks.due("read(1, 0)", x.read(1, 0), MIN);
    checks.due("remembers(0, 0, 0)", x.remembers(0, 0, 0), MAX);
    checks.due("remembers(1, 0, 0)", x.remembers(1, 0, 0), MIN);
    checks.due("remembers(1, 0, 2)", x.remembers(1, 0, 2), 1);
    checks.due("the smaller of both: dispute(0)", x.dispute(0), MIN);
    x.tie(0, 1);
    x.read(2, 0);
    checks.due("19 for the greater: dispute(0)", x.dispute(0), MAX);
  }

  /** "what it says behind so many years" */
  private void fades() {
    KnotArchive x = multiplied(Scenes.THE_SMALLEST);
    checks.due("fades(0, 9)", x.fades(0, 9), MIN);
    checks.due("fades(0, 10)", x.fades(0, 10), wrapped(7081, 7081, 21));
    checks.due("fades(0, 20)", x.fades(0, 20), wrapped(6070, 6070, 10));
    checks.due("fades(0, 30)", x.fades(0, 30), wrapped(5060, 5060, 0));
    KnotArchive y = multiplied(9999, 9999, 9999, 9999, 9999, 9999);
    checks.due("six: fades(0, 10)", y.fades(0, 10), wrapped(8888, 8888, 8888, 8888, 8888, 8888));
    checks.due("six: fades(0, 50)", y.fades(0, 50), wrapped(4444, 4444, 4444, 4444, 4444, 4444));
  }

  /** "by the difference of both numbers (not wrapped around)": from the greatest to the smallest is the farthest. */
  private void weighsTheGreatestChange() {
    KnotArchive x = multiplied(Scenes.ONE_LESS_THAN_THE_GREATEST);
    x.tie(0, 1);
    checks.due("2147483647: cord(0, 3)", x.cord(0, 3), MAX);
    // Each knot leaps to the other end, by 4294967295 or little less; all count as 2147483647.
    checks.due("at the greatest: weighs()", x.weighs(), 0);
    // From one less, a knot at the cord 0 is but one step, and one at the cord 1 leaps.
    x.tie(0, 0);
    checks.due("one less: weighs()", x.weighs(), 1);
  }

  /** "at most 2147483647": of two greater ones the cord with the smaller number, though its change is less. */
  private void weighsAtMost() {
    KnotArchive x = new KnotArchive();
    x.hang(-1, 1);
    x.tie(0, 9);
    int factors = Scenes.bundle(x, 0, 4, Scenes.ONE_LESS_THAN_THE_GREATEST);
    x.tie(factors, 9);
    x.tie(x.hang(0, 0), 17);
    checks.due("9 + (2147483646 + 9) - 17: cord(0, 3)", x.cord(0, 3), MAX);
    // By 4293417885 at the cord 2, by 4294508530 at the cord 3, by 4288479430 at the cord 4.
    checks.due("three beyond the most: weighs()", x.weighs(), 2);
    x.tie(2, 1389);
    checks.due("now it is full: weighs()", x.weighs(), 4);
  }

  /** The same: 2147483646 is less than the most, 2147483647 is the most, and 2147483648 is no more. */
  private void weighsJustTheMost() {
    // A knot at leftOne is worth what leftBy says, and one at rightOne what rightBy says, without the sign: with 3 more
    // that is -2147483647, with 4 more -2147483646.
    KnotArchive x = new KnotArchive();
    x.hang(-1, 0);
    int left = x.hang(0, 4);
    int leftOne = x.hang(left, 0);
    int leftBy = Scenes.bundle(x, left, 4, Scenes.ONE_LESS_THAN_THE_GREATEST);
    int right = x.hang(0, 4);
    int rightOne = x.hang(right, 0);
    int rightBy = Scenes.bundle(x, right, 4, Scenes.ONE_LESS_THAN_THE_GREATEST);
    int[][] cases = {{0, 0, leftOne}, {0, 1, rightOne}, {1, 0, leftOne}, {1, 1, leftOne}, {1, 2, leftOne},
        {2, 1, leftOne}, {0, 2, rightOne}, {2, 2, leftOne}, {0, 3, rightOne}, {3, 1, leftOne}, {4, 1, rightOne},
        {4, 0, leftOne}, {0, 4, leftOne}, {4, 3, rightOne}};
    for (int[] one : cases) {
      x.tie(leftBy, one[0]);
      x.tie(rightBy, one[1]);
      checks.due("by 2147483646 + " + one[0] + " or + " + one[1] + ": weighs()", x.weighs(), one[2]);
    }
  }

  /** What the cord 0 says wraps around before it is compared: a product that comes all around is no change. */
  private void weighsAround() {
    KnotArchive x = multiplied(8192, 8192, 64);
    x.tie(0, 9);
    // A knot at the cord 3 is worth 2 to the 26th, at the cords 1 and 2 it is worth 2 to the 19th.
    checks.due("8192 * 8192 more: weighs()", x.weighs(), 3);
    KnotArchive y = multiplied(8192, 8192, 64, 0);
    y.tie(0, 9);
    checks.due("all around once more is 0: weighs()", y.weighs(), -1);
  }

  private static BigInteger fold(BigInteger h, long x) {
    return h.multiply(STEP).add(BigInteger.valueOf(x));
  }

  private static int checksum(String text) {
    BigInteger h = BigInteger.ZERO;
    for (int i = 0; i < text.length(); i++) {
      h = fold(h, text.charAt(i));
    }
    return h.intValue();
  }

  /** "h becomes h * 31 + c, which wraps around as a 32-bit integer" */
  private void line() {
    KnotArchive x = new KnotArchive();
    int below = 0;
    for (int cord = 0; cord < 16; cord++) {
      int strand = cord % 5;
      x.hang(cord - 1, strand);
      for (int number : new int[] {0, 7, 10, 999, 1000, 9999}) {
        x.tie(cord, number);
        String text = cord + ":" + strand + ":" + number;
        checks.due("line(" + cord + ") of " + text, x.line(cord), checksum(text));
        below += x.line(cord) < 0 ? 1 : 0;
      }
    }
    checks.holds("some of them wrap around below 0", below > 10);
  }

  /** "A number d starts with 797"; nothing there yet: what count tells alone. */
  private void digestOfNothing() {
    BigInteger d = BigInteger.valueOf(797);
    for (int what = 0; what < 8; what++) {
      d = fold(d, 0);
    }
    KnotArchive x = new KnotArchive();
    checks.due("new: digest()", x.digest(), d.longValueExact());
    x.pass(1);
    checks.due("a year on: digest()", x.digest(), d.add(STEP.pow(7)).longValueExact());
    x.call();
    checks.due("with a witness: digest()", x.digest(),
        fold(d.add(STEP.pow(7)).add(STEP.pow(5)), 10).longValueExact());
  }

  private static BigInteger cordsTold(KnotArchive x, BigInteger start) {
    BigInteger d = start;
    for (int cord = 0; cord < x.count(1); cord++) {
      for (int what = 0; what < 8; what++) {
        d = fold(d, x.cord(cord, what));
      }
      for (int place = 0; place < 4; place++) {
        d = fold(d, x.place(cord, place, 0));
        d = fold(d, x.place(cord, place, 1));
      }
    }
    return d;
  }

  private static BigInteger witnessesTold(KnotArchive x, BigInteger start, int cords) {
    BigInteger d = start;
    for (int witness = 0; witness < x.count(2); witness++) {
      d = fold(d, x.trust(witness));
      for (int cord = 0; cord < cords; cord++) {
        for (int what = 0; what < 3; what++) {
          d = fold(d, x.remembers(witness, cord, what));
        }
      }
    }
    return d;
  }

  private static BigInteger untyingsTold(KnotArchive x, BigInteger start) {
    BigInteger d = start;
    for (int index = 0; index < x.count(4); index++) {
      for (int what = 0; what < 5; what++) {
        d = fold(d, x.untying(index, what));
      }
    }
    return d;
  }

  private static KnotArchive disputedAndFull() {
    KnotArchive x = Scenes.full();
    x.dispute(15);
    x.dispute(5);
    x.pass(3);
    return x;
  }

  /** "which wraps around as a 64-bit integer": all that a full archive tells; an object each, for its 512 calls. */
  private void digestOfAll() {
    BigInteger d = BigInteger.valueOf(797);
    KnotArchive x = disputedAndFull();
    for (int what = 0; what < 8; what++) {
      d = fold(d, x.count(what));
    }
    d = cordsTold(x, d);
    d = witnessesTold(disputedAndFull(), d, 16);
    d = untyingsTold(disputedAndFull(), d);
    checks.holds("it is too great for 64 bits", d.bitLength() > 64);
    checks.due("full: digest()", disputedAndFull().digest(), d.longValue());
    KnotArchive below = multiplied(Scenes.THE_SMALLEST);
    BigInteger told = BigInteger.valueOf(797);
    for (int what = 0; what < 8; what++) {
      told = fold(told, below.count(what));
    }
    checks.due("with -2147483648 told: digest()", below.digest(), cordsTold(below, told).longValue());
  }
}
