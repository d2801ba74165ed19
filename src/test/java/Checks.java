import java.util.function.IntSupplier;

/** Counts the answers that are not as due, for one test's main method. */
final class Checks {
  private final String test;
  private int made = 0;
  private int wrong = 0;

  Checks(String test) {
    this.test = test;
  }

  void due(String call, long got, long want) {
    made++;
    if (got != want) {
      fail(call + " answered " + got + ", due is " + want);
    }
  }

  void dueDouble(String call, double got, double want) {
    made++;
    if (Double.compare(got, want) != 0) {
      fail(call + " answered " + got + ", due is " + want);
    }
  }

  void holds(String what, boolean held) {
    made++;
    if (!held) {
      fail(what);
    }
  }

  /** The very class is due, none below it: those are thrown by the machine. And nothing may have changed. */
  void refused(String call, KnotArchive archive, Class<? extends RuntimeException> kind, IntSupplier made) {
    this.made++;
    long before = archive.digest();
    try {
      int got = made.getAsInt();
      fail(call + " answered " + got + ", due is " + kind.getSimpleName());
    } catch (RuntimeException e) {
      if (e.getClass() != kind) {
        fail(call + " threw " + e.getClass().getSimpleName() + ", due is " + kind.getSimpleName());
      }
    }
    if (archive.digest() != before) {
      fail(call + " threw, and changed the archive");
    }
  }

  void index(String call, KnotArchive archive, IntSupplier made) {
    refused(call, archive, IndexOutOfBoundsException.class, made);
  }

  void argument(String call, KnotArchive archive, IntSupplier made) {
    refused(call, archive, IllegalArgumentException.class, made);
  }

  void state(String call, KnotArchive archive, IntSupplier made) {
    refused(call, archive, IllegalStateException.class, made);
  }

  private void fail(String what) {
    wrong++;
    System.out.println(test + ": " + what);
  }

  void end() {
    System.out.println(test + ": " + (made - wrong) + " of " + made + " checks as due");
    if (wrong != 0 || made == 0) {
      System.exit(1);
    }
  }
}
