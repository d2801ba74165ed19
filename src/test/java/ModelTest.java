import java.util.Random;

/** Long runs of calls, the same in each test run, on the class and on the model: both must answer alike. */
public final class ModelTest {
  private static final int RUNS = 400;
  private static final int CALLS = 512;

  private final Checks checks = new Checks("ModelTest");
  private final Random random;
  private final KnotArchive archive = new KnotArchive();
  private final Model model = new Model();
  private final int run;

  private ModelTest(int run) {
    this.run = run;
    random = new Random(run);
  }

  public static void main(String[] args) {
    for (int run = 0; run < RUNS; run++) {
      ModelTest test = new ModelTest(run);
      for (int call = 0; call < CALLS; call++) {
        test.step(call);
      }
    }
    System.out.println("ModelTest: " + RUNS + " runs of " + CALLS + " calls answered alike");
  }

  private interface Answer {
    Object get();
  }

  private static String told(Answer answer) {
    try {
      return String.valueOf(answer.get());
    } catch (RuntimeException e) {
      return "throws." + e.getClass().getSimpleName();
    }
  }

  private void alike(int call, String what, Answer got, Answer want) {
    String gotText = told(got);
    String wantText = told(want);
    if (!gotText.equals(wantText) || archive.digest() != model.digest()) {
      System.out.println("ModelTest: run " + run + ", call " + call + ": " + what + " answered " + gotText
          + ", the model " + wantText + "; digests " + archive.digest() + " and " + model.digest());
      System.exit(1);
    }
  }

  /** Mostly a number that there is, at times one just outside or far away. */
  private int near(int bound) {
    int kind = random.nextInt(60);
    if (kind == 0) {
      return -1;
    }
    if (kind == 1) {
      return bound;
    }
    if (kind == 2) {
      return random.nextInt();
    }
    return random.nextInt(Math.max(bound, 1));
  }

  private int cord() {
    return near(model.count(1));
  }

  private int witness() {
    return near(model.count(2));
  }

  /** Numbers that tell little apart as well as great ones: ties in disputes, and products that wrap around. */
  private int number() {
    int kind = random.nextInt(4);
    return kind == 0 ? near(3) : kind == 1 ? 9990 + near(10) : near(10000);
  }

  private void step(int call) {
    // Some runs keep few cords, and in some the years go by slowly, so that the bounds are met in many orders.
    int kind = random.nextInt(run % 3 == 0 ? 19 : 20);
    switch (kind) {
      case 0: {
        int from = random.nextInt(4) == 0 ? -1 : run % 2 == 0 ? near(Math.min(3, model.count(1))) : cord();
        int strand = near(5);
        alike(call, "hang(" + from + ", " + strand + ")",
            () -> archive.hang(from, strand), () -> model.hang(from, strand));
        break;
      }
      case 1:
      case 2:
      case 3: {
        int cord = cord();
        int number = number();
        alike(call, "tie(" + cord + ", " + number + ")",
            () -> archive.tie(cord, number), () -> model.tie(cord, number));
        break;
      }
      case 4: {
        int witness = witness();
        int cord = cord();
        int place = near(4);
        int knots = 1 + near(random.nextInt(2) == 0 ? 2 : 9);
        alike(call, "untie(" + witness + ", " + cord + ", " + place + ", " + knots + ")",
            () -> archive.untie(witness, cord, place, knots), () -> model.untie(witness, cord, place, knots));
        break;
      }
      case 5: {
        int cord = cord();
        alike(call, "mend(" + cord + ")", () -> archive.mend(cord), () -> model.mend(cord));
        break;
      }
      case 6: {
        int cord = cord();
        int what = near(8);
        alike(call, "cord(" + cord + ", " + what + ")", () -> archive.cord(cord, what), () -> model.cord(cord, what));
        break;
      }
      case 7: {
        int cord = cord();
        int place = near(4);
        int what = near(2);
        alike(call, "place(" + cord + ", " + place + ", " + what + ")",
            () -> archive.place(cord, place, what), () -> model.place(cord, place, what));
        break;
      }
      default:
        stepAmongWitnesses(call, kind);
    }
  }

  private void stepAmongWitnesses(int call, int kind) {
    switch (kind) {
      case 8:
        alike(call, "call()", () -> archive.call(), () -> model.call());
        break;
      case 9:
      case 10: {
        int witness = witness();
        int cord = random.nextBoolean() ? 0 : cord();
        alike(call, "read(" + witness + ", " + cord + ")",
            () -> archive.read(witness, cord), () -> model.read(witness, cord));
        break;
      }
      case 11: {
        int witness = witness();
        int cord = cord();
        int what = near(3);
        alike(call, "remembers(" + witness + ", " + cord + ", " + what + ")",
            () -> archive.remembers(witness, cord, what), () -> model.remembers(witness, cord, what));
        break;
      }
      case 12: {
        int witness = witness();
        alike(call, "trust(" + witness + ")", () -> archive.trust(witness), () -> model.trust(witness));
        break;
      }
      case 13: {
        int cord = random.nextBoolean() ? 0 : cord();
        alike(call, "dispute(" + cord + ")", () -> archive.dispute(cord), () -> model.dispute(cord));
        break;
      }
      case 14: {
        int index = near(model.count(4));
        int what = near(5);
        alike(call, "untying(" + index + ", " + what + ")",
            () -> archive.untying(index, what), () -> model.untying(index, what));
        break;
      }
      default:
        stepThroughYears(call, kind);
    }
  }

  private void stepThroughYears(int call, int kind) {
    switch (kind) {
      case 15: {
        int what = near(8);
        alike(call, "count(" + what + ")", () -> archive.count(what), () -> model.count(what));
        break;
      }
      case 16: {
        int cord = cord();
        int years = 1 + near(50);
        alike(call, "fades(" + cord + ", " + years + ")",
            () -> archive.fades(cord, years), () -> model.fades(cord, years));
        break;
      }
      case 17: {
        int cord = cord();
        alike(call, "amends(" + cord + ")", () -> archive.amends(cord), () -> model.amends(cord));
        alike(call, "line(" + cord + ")", () -> archive.line(cord), () -> model.line(cord));
        break;
      }
      case 18:
        alike(call, "weighs()", () -> archive.weighs(), () -> model.weighs());
        alike(call, "mean()", () -> archive.mean(), () -> model.mean());
        break;
      default: {
        int years = 1 + near(random.nextInt(4) == 0 ? 50 : 6);
        alike(call, "pass(" + years + ")", () -> archive.pass(years), () -> model.pass(years));
      }
    }
  }
}
