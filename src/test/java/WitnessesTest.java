/** Promises 8 to 13: who remembers what, who is trusted, and who untied. */
public final class WitnessesTest {
  private static final Class<IndexOutOfBoundsException> INDEX = IndexOutOfBoundsException.class;
  private static final Class<IllegalStateException> STATE = IllegalStateException.class;

  private static final int[] FAR = {Integer.MIN_VALUE, -1, 6, 16, Integer.MAX_VALUE};

  private final Checks checks = new Checks("WitnessesTest");

  public static void main(String[] args) {
    WitnessesTest test = new WitnessesTest();
    test.call();
    test.read();
    test.readsMinusOne();
    test.remembers();
    test.trust();
    test.trustLimits();
    test.disputeByTrust();
    test.disputeByJointTrust();
    test.disputeByYear();
    test.disputeByNumber();
    test.disputeWithoutTrust();
    test.disputeOfOneCord();
    test.disputeRefuses();
    test.untying();
    test.checks.end();
  }

  private void trusts(String when, KnotArchive x, int... due) {
    for (int witness = 0; witness < due.length; witness++) {
      checks.due(when + ": trust(" + witness + ")", x.trust(witness), due[witness]);
    }
  }

  // Promise 8

  private void call() {
    KnotArchive x = new KnotArchive();
    for (int witness = 0; witness < 6; witness++) {
      checks.due("call()", x.call(), witness);
      checks.due("called: count(2)", x.count(2), witness + 1);
    }
    checks.refused("the 7th: call()", x, STATE, () -> x.call());
    checks.due("the 7th: count(2)", x.count(2), 6);
  }

  // Promise 9

  private void read() {
    KnotArchive x = Scenes.beside(1, 2);
    x.hang(0, 0);
    x.tie(0, 100);
    x.tie(1, 20);
    checks.due("read(1, 0)", x.read(1, 0), 120);
    checks.due("remembers(1, 0, 0)", x.remembers(1, 0, 0), 120);
    checks.due("another witness: remembers(0, 0, 2)", x.remembers(0, 0, 2), 0);
    checks.due("another cord: remembers(1, 1, 2)", x.remembers(1, 1, 2), 0);
    x.pass(4);
    x.tie(1, 30);
    checks.due("what was read stays: remembers(1, 0, 0)", x.remembers(1, 0, 0), 120);
    checks.due("its year stays: remembers(1, 0, 1)", x.remembers(1, 0, 1), 0);
    checks.due("read again: read(1, 0)", x.read(1, 0), 130);
    checks.due("read again: remembers(1, 0, 0)", x.remembers(1, 0, 0), 130);
    checks.due("read again: remembers(1, 0, 1)", x.remembers(1, 0, 1), 4);
    trusts("reading", x, 10, 10);
    for (int far : FAR) {
      checks.refused("read(" + far + ", 0)", x, INDEX, () -> x.read(far, 0));
      checks.refused("read(0, " + far + ")", x, INDEX, () -> x.read(0, far));
    }
    checks.refused("read(2, 0)", x, INDEX, () -> x.read(2, 0));
    checks.refused("read(0, 2)", x, INDEX, () -> x.read(0, 2));
    KnotArchive empty = new KnotArchive();
    checks.refused("nobody: read(0, 0)", empty, INDEX, () -> empty.read(0, 0));
  }

  /** A cord that says -1 can be remembered, and disputed about. */
  private void readsMinusOne() {
    KnotArchive x = new KnotArchive();
    x.hang(-1, 1);
    x.hang(0, 0);
    x.tie(x.hang(0, 0), 1);
    x.call();
    checks.due("read(0, 0)", x.read(0, 0), -1);
    checks.due("-1 read: remembers(0, 0, 0)", x.remembers(0, 0, 0), -1);
    checks.due("-1 read: remembers(0, 0, 1)", x.remembers(0, 0, 1), 0);
    checks.due("-1 read: remembers(0, 0, 2)", x.remembers(0, 0, 2), 1);
    checks.due("-1 read: dispute(0)", x.dispute(0), -1);
    checks.due("-1 told: trust(0)", x.trust(0), 11);
  }

  // Promise 10

  private void remembers() {
    KnotArchive x = Scenes.beside(2, 2);
    for (int witness = 0; witness < 2; witness++) {
      for (int cord = 0; cord < 2; cord++) {
        checks.due("nothing read: what 0", x.remembers(witness, cord, 0), -1);
        checks.due("nothing read: what 1", x.remembers(witness, cord, 1), -1);
        checks.due("nothing read: what 2", x.remembers(witness, cord, 2), 0);
      }
    }
    x.pass(7);
    Scenes.readAs(x, 0, 1, 33);
    checks.due("remembers(0, 1, 0)", x.remembers(0, 1, 0), 33);
    checks.due("remembers(0, 1, 1)", x.remembers(0, 1, 1), 7);
    checks.due("remembers(0, 1, 2)", x.remembers(0, 1, 2), 1);
    x.hang(0, 0);
    checks.due("a new cord: remembers(0, 2, 0)", x.remembers(0, 2, 0), -1);
    checks.due("a new cord: remembers(0, 2, 1)", x.remembers(0, 2, 1), -1);
    checks.due("a new cord: remembers(0, 2, 2)", x.remembers(0, 2, 2), 0);
    for (int far : FAR) {
      checks.refused("remembers(" + far + ", 0, 0)", x, INDEX, () -> x.remembers(far, 0, 0));
      checks.refused("remembers(0, " + far + ", 0)", x, INDEX, () -> x.remembers(0, far, 0));
      checks.refused("remembers(0, 0, " + far + ")", x, INDEX, () -> x.remembers(0, 0, far));
    }
    checks.refused("remembers(2, 0, 0)", x, INDEX, () -> x.remembers(2, 0, 0));
    checks.refused("remembers(0, 3, 0)", x, INDEX, () -> x.remembers(0, 3, 0));
    checks.refused("remembers(0, 0, 3)", x, INDEX, () -> x.remembers(0, 0, 3));
  }

  // Promise 11

  private void trust() {
    KnotArchive x = Scenes.beside(0, 2);
    trusts("at first", x, 10, 10);
    for (int far : FAR) {
      checks.refused("trust(" + far + ")", x, INDEX, () -> x.trust(far));
    }
    checks.refused("trust(2)", x, INDEX, () -> x.trust(2));
  }

  private void trustLimits() {
    KnotArchive x = Scenes.beside(1, 3);
    Scenes.readAs(x, 0, 0, 1);
    Scenes.readAs(x, 2, 0, 1);
    Scenes.readAs(x, 1, 0, 5);
    for (int i = 1; i <= 12; i++) {
      checks.due("dispute " + i, x.dispute(0), 1);
      int gained = Math.min(20, 10 + i);
      trusts("dispute " + i, x, gained, Math.max(0, 10 - i), gained);
    }
  }

  // Promise 12

  private void disputeByTrust() {
    KnotArchive x = Scenes.beside(2, 3);
    Scenes.readAs(x, 2, 1, 8);
    x.dispute(1);
    trusts("one alone", x, 10, 10, 11);
    x.pass(1);
    Scenes.readAs(x, 0, 0, 500);
    Scenes.readAs(x, 2, 0, 900);
    x.pass(1);
    Scenes.readAs(x, 1, 0, 100);
    // 900 is neither the latest nor the smallest, but one of more trust remembers it.
    checks.due("the most trusted: dispute(0)", x.dispute(0), 900);
    trusts("the most trusted", x, 9, 9, 12);
    checks.due("nothing of it is forgotten: remembers(0, 0, 0)", x.remembers(0, 0, 0), 500);
  }

  private void disputeByJointTrust() {
    KnotArchive x = Scenes.beside(2, 6);
    for (int i = 0; i < 5; i++) {
      Scenes.readAs(x, 0, 1, 1);
      x.dispute(1);
    }
    trusts("ahead", x, 15, 10, 10, 10, 10, 10);
    Scenes.readAs(x, 1, 0, 70);
    Scenes.readAs(x, 0, 0, 30);
    Scenes.readAs(x, 4, 0, 70);
    Scenes.readAs(x, 5, 0, 40);
    checks.due("20 against 15: dispute(0)", x.dispute(0), 70);
    trusts("20 against 15", x, 14, 11, 10, 10, 11, 9);
  }

  private void disputeByYear() {
    KnotArchive x = Scenes.beside(1, 4);
    Scenes.readAs(x, 0, 0, 40);
    Scenes.readAs(x, 2, 0, 30);
    x.pass(3);
    Scenes.readAs(x, 1, 0, 30);
    x.pass(3);
    Scenes.readAs(x, 3, 0, 40);
    // Both numbers have a trust of 20; 40 was read at first and, by another, in the latest year.
    checks.due("the later read: dispute(0)", x.dispute(0), 40);
    trusts("the later read", x, 11, 9, 9, 11);

    KnotArchive y = Scenes.beside(1, 2);
    Scenes.readAs(y, 0, 0, 50);
    y.pass(1);
    Scenes.readAs(y, 1, 0, 60);
    checks.due("60 is later: dispute(0)", y.dispute(0), 60);

    KnotArchive z = Scenes.beside(1, 2);
    Scenes.readAs(z, 1, 0, 60);
    z.pass(1);
    Scenes.readAs(z, 0, 0, 50);
    checks.due("50 is later: dispute(0)", z.dispute(0), 50);
  }

  private void disputeByNumber() {
    int[][] orders = {{70, 20, 50}, {20, 50, 70}, {50, 70, 20}};
    for (int[] order : orders) {
      KnotArchive x = Scenes.beside(1, 3);
      for (int witness = 0; witness < 3; witness++) {
        Scenes.readAs(x, witness, 0, order[witness]);
      }
      checks.due("the smallest: dispute(0)", x.dispute(0), 20);
      for (int witness = 0; witness < 3; witness++) {
        checks.due("the smallest: trust", x.trust(witness), order[witness] == 20 ? 11 : 9);
      }
    }
    KnotArchive x = new KnotArchive();
    x.hang(-1, 1);
    x.hang(0, 0);
    x.hang(0, 0);
    x.call();
    x.call();
    x.read(0, 0);
    x.tie(2, 9);
    x.read(1, 0);
    checks.due("-9 is smaller than 0: dispute(0)", x.dispute(0), -9);
  }

  /** A number that nobody trusts is told all the same, if there is no other. */
  private void disputeWithoutTrust() {
    KnotArchive x = Scenes.beside(2, 4);
    for (int i = 0; i < 10; i++) {
      Scenes.readAs(x, 0, 0, 5);
      Scenes.readAs(x, 2, 0, 5);
      Scenes.readAs(x, 3, 0, 5);
      Scenes.readAs(x, 1, 0, 9);
      x.dispute(0);
    }
    trusts("ahead", x, 20, 0, 20, 20);
    Scenes.readAs(x, 1, 1, 77);
    checks.due("no trust: dispute(1)", x.dispute(1), 77);
    trusts("no trust", x, 20, 1, 20, 20);
  }

  private void disputeOfOneCord() {
    KnotArchive x = Scenes.beside(2, 4);
    Scenes.readAs(x, 0, 0, 12);
    Scenes.readAs(x, 1, 0, 13);
    Scenes.readAs(x, 2, 1, 13);
    checks.due("only who remembers it: dispute(0)", x.dispute(0), 12);
    trusts("only who remembers it", x, 11, 9, 10, 10);
    checks.due("again: dispute(1)", x.dispute(1), 13);
    trusts("again", x, 11, 9, 11, 10);
  }

  private void disputeRefuses() {
    KnotArchive x = Scenes.beside(2, 2);
    checks.refused("nobody read: dispute(0)", x, STATE, () -> x.dispute(0));
    x.read(0, 0);
    checks.refused("nobody read it: dispute(1)", x, STATE, () -> x.dispute(1));
    for (int far : FAR) {
      checks.refused("dispute(" + far + ")", x, INDEX, () -> x.dispute(far));
    }
    checks.refused("dispute(2)", x, INDEX, () -> x.dispute(2));
  }

  // Promise 13

  private void untying() {
    KnotArchive x = Scenes.beside(3, 2);
    checks.refused("none: untying(0, 0)", x, INDEX, () -> x.untying(0, 0));
    x.tie(2, 9999);
    x.tie(0, 9999);
    x.untie(1, 2, 3, 4);
    x.pass(6);
    x.untie(0, 0, 1, 9);
    int[][] due = {{1, 2, 3, 4, 0}, {0, 0, 1, 9, 6}};
    for (int index = 0; index < 2; index++) {
      for (int what = 0; what < 5; what++) {
        checks.due("untying(" + index + ", " + what + ")", x.untying(index, what), due[index][what]);
      }
    }
    checks.refused("untying(2, 0)", x, INDEX, () -> x.untying(2, 0));
    for (int far : new int[] {Integer.MIN_VALUE, -1, 5, 30, Integer.MAX_VALUE}) {
      checks.refused("untying(" + far + ", 0)", x, INDEX, () -> x.untying(far, 0));
      checks.refused("untying(0, " + far + ")", x, INDEX, () -> x.untying(0, far));
    }
  }
}
