/** Archives that several tests begin with. */
final class Scenes {
  /** 1386 * 4681 * 331 is 2147483646. */
  static final int[] ONE_LESS_THAN_THE_GREATEST = {1386, 4681, 331};
  /** 2 to the 13th, to the 13th and to the 5th: 2147483648, which wraps around to -2147483648. */
  static final int[] THE_SMALLEST = {8192, 8192, 32};
  /** 2 to the 32nd, which wraps around to 0. */
  static final int[] ALL_AROUND = {8192, 8192, 64};

  private Scenes() {
  }

  /** Cords at the beam, of the strand 0. */
  static KnotArchive beside(int cords, int witnesses) {
    KnotArchive x = new KnotArchive();
    for (int cord = 0; cord < cords; cord++) {
      x.hang(-1, 0);
    }
    for (int witness = 0; witness < witnesses; witness++) {
      x.call();
    }
    return x;
  }

  static KnotArchive single(int strand, int number) {
    KnotArchive x = new KnotArchive();
    x.hang(-1, strand);
    x.tie(0, number);
    return x;
  }

  /** Hangs a cord of this strand, from which cords with these numbers hang; returns its number. */
  static int bundle(KnotArchive x, int from, int strand, int... numbers) {
    int top = x.hang(from, strand);
    for (int number : numbers) {
      x.tie(x.hang(top, 0), number);
    }
    return top;
  }

  /** An archive of such a bundle alone, whose top is the cord 0. */
  static KnotArchive bundled(int strand, int... numbers) {
    KnotArchive x = new KnotArchive();
    bundle(x, -1, strand, numbers);
    return x;
  }

  /** The witness reads the cord, from which nothing hangs, as it says this number. */
  static void readAs(KnotArchive x, int witness, int cord, int number) {
    x.tie(cord, number);
    x.read(witness, cord);
  }

  /** All is full: 16 cords, of which 6 hang from the cord 0, 6 witnesses who remember, 30 untyings; and all frays. */
  static KnotArchive full() {
    KnotArchive x = new KnotArchive();
    for (int cord = 0; cord < 16; cord++) {
      int from = cord == 0 ? -1 : cord <= 6 ? 0 : cord - 6;
      x.tie(x.hang(from, cord % 5), 9999 - cord);
    }
    for (int witness = 0; witness < 6; witness++) {
      x.call();
      x.read(witness, witness);
      x.read(witness, 15);
    }
    x.pass(3);
    for (int i = 0; i < 30; i++) {
      x.untie(i % 6, i % 10, i / 10, 1);
    }
    return x;
  }
}
