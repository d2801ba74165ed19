/** An archive of knotted cords: what they say, how years fray them, and who remembers what of them. */
public final class KnotArchive {
  private static final int BEAM = -1;
  private static final int NONE = -1;

  private static final int MOST_CORDS = 16;
  private static final int MOST_AT_A_CORD = 6;
  private static final int PLACES = 4;
  private static final int LAST_PLACE = 3;
  private static final int MOST_KNOTS = 9;
  private static final int MOST_DIGITS = 9999;
  private static final int FRAYED_THROUGH = 10;

  private static final int ADDED = 0;
  private static final int FIRST_LESS_OTHERS = 1;
  private static final int GREATEST = 2;
  private static final int HOW_MANY_SAY_MORE = 3;
  private static final int MULTIPLIED = 4;

  private static final int MOST_WITNESSES = 6;
  private static final int FIRST_TRUST = 10;
  private static final int MOST_TRUST = 20;
  private static final int MOST_UNTYINGS = 30;
  private static final int MOST_YEARS = 50;
  private static final long MOST_CHANGE = 2147483647;

  private static final int CORD_WHATS = 8;
  private static final int PLACE_WHATS = 2;
  private static final int REMEMBERS_WHATS = 3;
  private static final int UNTYING_WHATS = 5;
  private static final int COUNT_WHATS = 8;

  private final Cords cords;
  private final Knots nowKnots;
  private final Knots laterKnots;
  private final Witnesses witnesses;
  private final Untyings untyings;
  private int year;
  private int lost;

  public KnotArchive() {
    cords = new Cords();
    nowKnots = new Knots();
    laterKnots = new Knots();
    witnesses = new Witnesses();
    untyings = new Untyings();
    year = 0;
    lost = 0;
  }

  // ---- cords

  public int hang(int from, int strand)
      throws IndexOutOfBoundsException, IllegalArgumentException, IllegalStateException {
    if (from != BEAM) {
      checkCord(from);
    }
    if (strand < ADDED || strand > MULTIPLIED) {
      throw new IllegalArgumentException("no such strand");
    }
    if (cords.size == MOST_CORDS) {
      throw new IllegalStateException("there are 16 cords");
    }
    // The document bounds what hangs from a cord; the beam is none.
    if (from != BEAM && cords.hangingFrom(from) >= MOST_AT_A_CORD) {
      throw new IllegalStateException("6 cords hang from this one");
    }
    return cords.add(from, strand);
  }

  public int tie(int cord, int number) throws IndexOutOfBoundsException, IllegalArgumentException {
    checkCord(cord);
    if (number < 0 || number > MOST_DIGITS) {
      throw new IllegalArgumentException("no number of four digits");
    }
    int before = nowKnots.digits(cord);
    nowKnots.tieAll(cord, number);
    return before;
  }

  public int untie(int witness, int cord, int place, int knots)
      throws IndexOutOfBoundsException, IllegalArgumentException, IllegalStateException {
    checkWitness(witness);
    checkCord(cord);
    checkPlace(place);
    if (knots < 1 || knots > MOST_KNOTS) {
      throw new IllegalArgumentException("knots are untied 1 to 9 at once");
    }
    if (nowKnots.tied[cord][place] < knots) {
      throw new IllegalStateException("there are not so many knots");
    }
    if (untyings.size == MOST_UNTYINGS) {
      throw new IllegalStateException("30 untyings are written down");
    }
    nowKnots.tied[cord][place] -= knots;
    untyings.write(witness, cord, place, knots, year);
    return nowKnots.digits(cord);
  }

  public int mend(int cord) throws IndexOutOfBoundsException {
    checkCord(cord);
    int before = nowKnots.allFrays(cord);
    nowKnots.clearFrays(cord);
    return before;
  }

  public int cord(int cord, int what) throws IndexOutOfBoundsException {
    checkCord(cord);
    checkWhat(what, CORD_WHATS);
    cords.tell(nowKnots);
    return cordDetail(cord, what);
  }

  public int place(int cord, int place, int what) throws IndexOutOfBoundsException {
    checkCord(cord);
    checkPlace(place);
    checkWhat(what, PLACE_WHATS);
    return what == 0 ? nowKnots.tied[cord][place] : nowKnots.frays[cord][place];
  }

  // ---- witnesses

  public int call() throws IllegalStateException {
    if (witnesses.size == MOST_WITNESSES) {
      throw new IllegalStateException("there are 6 witnesses");
    }
    return witnesses.add();
  }

  public int read(int witness, int cord) throws IndexOutOfBoundsException {
    checkWitness(witness);
    checkCord(cord);
    cords.tell(nowKnots);
    int said = cords.says[cord];
    witnesses.keep(witness, cord, said, year);
    return said;
  }

  public int remembers(int witness, int cord, int what) throws IndexOutOfBoundsException {
    checkWitness(witness);
    checkCord(cord);
    checkWhat(what, REMEMBERS_WHATS);
    return witnesses.memory(witness, cord, what);
  }

  public int trust(int witness) throws IndexOutOfBoundsException {
    checkWitness(witness);
    return witnesses.trusts[witness];
  }

  public int dispute(int cord) throws IndexOutOfBoundsException, IllegalStateException {
    checkCord(cord);
    int speaker = witnesses.mostTrusted(cord);
    if (speaker == NONE) {
      throw new IllegalStateException("no witness remembers the cord");
    }
    int told = witnesses.numbers[speaker][cord];
    witnesses.judge(cord, told);
    return told;
  }

  public int untying(int index, int what) throws IndexOutOfBoundsException {
    if (index < 0 || index >= untyings.size) {
      throw new IndexOutOfBoundsException("no such untying");
    }
    checkWhat(what, UNTYING_WHATS);
    return untyings.rows[index][what];
  }

  // ---- years and looking

  public int pass(int years) throws IllegalArgumentException {
    checkYears(years);
    int lostNow = nowKnots.fray(cords, years);
    year += years;
    lost += lostNow;
    return lostNow;
  }

  public int count(int what) throws IndexOutOfBoundsException {
    checkWhat(what, COUNT_WHATS);
    cords.tell(nowKnots);
    return total(what);
  }

  public int fades(int cord, int years) throws IndexOutOfBoundsException, IllegalArgumentException {
    checkCord(cord);
    checkYears(years);
    laterKnots.copyFrom(nowKnots);
    laterKnots.fray(cords, years);
    cords.tell(laterKnots);
    return cords.says[cord];
  }

  public int amends(int cord) throws IndexOutOfBoundsException {
    checkCord(cord);
    cords.tell(nowKnots);
    if (agrees(cord)) {
      return 0;
    }
    int counted = cords.counted[cord];
    if (counted < 0 || counted > MOST_DIGITS) {
      return -1;
    }
    return nowKnots.differences(cord, counted);
  }

  public int weighs() {
    if (cords.size == 0) {
      return NONE;
    }
    cords.tell(nowKnots);
    int before = cords.says[0];
    int heaviest = NONE;
    long most = 0;
    for (int cord = 0; cord < cords.size; cord++) {
      long change = changeByKnot(cord, before);
      if (change > most) {
        most = change;
        heaviest = cord;
      }
    }
    return heaviest;
  }

  public int line(int cord) throws IndexOutOfBoundsException {
    checkCord(cord);
    StringBuilder text = new StringBuilder();
    text.append(cord);
    text.append(':');
    text.append(cords.strands[cord]);
    text.append(':');
    text.append(nowKnots.digits(cord));
    int h = 0;
    for (int i = 0; i < text.length(); i++) {
      h = h * 31 + text.charAt(i);
    }
    return h;
  }

  public double mean() {
    if (witnesses.size == 0) {
      return 0;
    }
    int sum = 0;
    for (int witness = 0; witness < witnesses.size; witness++) {
      sum += witnesses.trusts[witness];
    }
    return (double) sum / witnesses.size;
  }

  public long digest() {
    cords.tell(nowKnots);
    long d = 797;
    for (int what = 0; what < COUNT_WHATS; what++) {
      d = d * 31 + total(what);
    }
    d = digestCords(d);
    d = digestWitnesses(d);
    return digestUntyings(d);
  }

  // ---- arguments

  private void checkCord(int cord) {
    if (cord < 0 || cord >= cords.size) {
      throw new IndexOutOfBoundsException("no such cord");
    }
  }

  private void checkWitness(int witness) {
    if (witness < 0 || witness >= witnesses.size) {
      throw new IndexOutOfBoundsException("no such witness");
    }
  }

  private static void checkPlace(int place) {
    if (place < 0 || place >= PLACES) {
      throw new IndexOutOfBoundsException("no such place");
    }
  }

  private static void checkWhat(int what, int whats) {
    if (what < 0 || what >= whats) {
      throw new IndexOutOfBoundsException("nothing is told by this number");
    }
  }

  private static void checkYears(int years) {
    if (years < 1 || years > MOST_YEARS) {
      throw new IllegalArgumentException("years are 1 to 50");
    }
  }

  // ---- looks that take cords.tell(nowKnots) for done, so that one telling serves many of them

  private int cordDetail(int cord, int what) {
    switch (what) {
      case 0:
        return cords.froms[cord];
      case 1:
        return cords.strands[cord];
      case 2:
        return nowKnots.digits(cord);
      case 3:
        return cords.says[cord];
      case 4:
        return cords.counted[cord];
      case 5:
        return cords.hangingFrom(cord);
      case 6:
        return agrees(cord) ? 1 : 0;
      default:
        return nowKnots.allFrays(cord);
    }
  }

  private boolean agrees(int cord) {
    return cords.hangingFrom(cord) == 0 || nowKnots.digits(cord) == cords.counted[cord];
  }

  private int total(int what) {
    switch (what) {
      case 0:
        return year;
      case 1:
        return cords.size;
      case 2:
        return witnesses.size;
      case 3:
        return totalKnots();
      case 4:
        return untyings.size;
      case 5:
        return totalDisagreeing();
      case 6:
        return totalSaidAtBeam();
      default:
        return lost;
    }
  }

  private int totalKnots() {
    int sum = 0;
    for (int cord = 0; cord < cords.size; cord++) {
      for (int place = 0; place < PLACES; place++) {
        sum += nowKnots.tied[cord][place];
      }
    }
    return sum;
  }

  private int totalDisagreeing() {
    int disagreeing = 0;
    for (int cord = 0; cord < cords.size; cord++) {
      if (!agrees(cord)) {
        disagreeing++;
      }
    }
    return disagreeing;
  }

  private int totalSaidAtBeam() {
    int sum = 0;
    for (int cord = 0; cord < cords.size; cord++) {
      if (cords.froms[cord] == BEAM) {
        sum += cords.says[cord];
      }
    }
    return sum;
  }

  // ---- parts of weighs and digest

  /** By how much a knot more at the last place of this cord changes what the cord 0 says. */
  private long changeByKnot(int cord, int before) {
    if (nowKnots.tied[cord][LAST_PLACE] >= MOST_KNOTS) {
      return 0;
    }
    laterKnots.copyFrom(nowKnots);
    laterKnots.tied[cord][LAST_PLACE]++;
    cords.tell(laterKnots);
    // As longs, since the difference of two ints can be too great for an int.
    long change = Math.abs((long) cords.says[0] - (long) before);
    return Math.min(change, MOST_CHANGE);
  }

  private long digestCords(long start) {
    long d = start;
    for (int cord = 0; cord < cords.size; cord++) {
      for (int what = 0; what < CORD_WHATS; what++) {
        d = d * 31 + cordDetail(cord, what);
      }
      for (int place = 0; place < PLACES; place++) {
        d = d * 31 + nowKnots.tied[cord][place];
        d = d * 31 + nowKnots.frays[cord][place];
      }
    }
    return d;
  }

  private long digestWitnesses(long start) {
    long d = start;
    for (int witness = 0; witness < witnesses.size; witness++) {
      d = d * 31 + witnesses.trusts[witness];
      for (int cord = 0; cord < cords.size; cord++) {
        for (int what = 0; what < REMEMBERS_WHATS; what++) {
          d = d * 31 + witnesses.memory(witness, cord, what);
        }
      }
    }
    return d;
  }

  private long digestUntyings(long start) {
    long d = start;
    for (int index = 0; index < untyings.size; index++) {
      for (int what = 0; what < UNTYING_WHATS; what++) {
        d = d * 31 + untyings.rows[index][what];
      }
    }
    return d;
  }

  /** Which cord hangs from which, and what they say of any knots, those of later years too. */
  private static final class Cords {
    private final int[] froms = new int[MOST_CORDS];
    private final int[] strands = new int[MOST_CORDS];
    private final int[] says = new int[MOST_CORDS];
    private final int[] counted = new int[MOST_CORDS];
    private int size = 0;

    private int add(int from, int strand) {
      int cord = size;
      froms[cord] = from;
      strands[cord] = strand;
      size = cord + 1;
      return cord;
    }

    private int hangingFrom(int cord) {
      int hanging = 0;
      for (int other = cord + 1; other < size; other++) {
        if (froms[other] == cord) {
          hanging++;
        }
      }
      return hanging;
    }

    /** Fills the rows says and counted. */
    private void tell(Knots knots) {
      // What hangs from a cord has a greater number: from the greatest down, all that is counted has been told.
      for (int cord = size - 1; cord >= 0; cord--) {
        counted[cord] = countHanging(cord);
        says[cord] = knots.digits(cord) + counted[cord];
      }
    }

    private int countHanging(int cord) {
      int strand = strands[cord];
      int sum = 0;
      boolean first = true;
      for (int other = cord + 1; other < size; other++) {
        if (froms[other] == cord) {
          sum = first ? begun(strand, says[other]) : joined(strand, sum, says[other]);
          first = false;
        }
      }
      return sum;
    }

    private static int begun(int strand, int said) {
      return strand == HOW_MANY_SAY_MORE ? oneIfMore(said) : said;
    }

    private static int joined(int strand, int sum, int said) {
      switch (strand) {
        case ADDED:
          return sum + said;
        case FIRST_LESS_OTHERS:
          return sum - said;
        case GREATEST:
          return Math.max(sum, said);
        case HOW_MANY_SAY_MORE:
          return sum + oneIfMore(said);
        default:
          return sum * said;
      }
    }

    private static int oneIfMore(int said) {
      return said > 0 ? 1 : 0;
    }
  }

  /** The knots of all cords with their frays. */
  private static final class Knots {
    private final int[][] tied = new int[MOST_CORDS][PLACES];
    private final int[][] frays = new int[MOST_CORDS][PLACES];

    private int digits(int cord) {
      int digits = 0;
      for (int place = 0; place < PLACES; place++) {
        digits = digits * 10 + tied[cord][place];
      }
      return digits;
    }

    private void tieAll(int cord, int number) {
      int rest = number;
      for (int place = LAST_PLACE; place >= 0; place--) {
        tied[cord][place] = rest % 10;
        rest = rest / 10;
      }
      clearFrays(cord);
    }

    private void clearFrays(int cord) {
      for (int place = 0; place < PLACES; place++) {
        frays[cord][place] = 0;
      }
    }

    private int allFrays(int cord) {
      int sum = 0;
      for (int place = 0; place < PLACES; place++) {
        sum += frays[cord][place];
      }
      return sum;
    }

    private int differences(int cord, int number) {
      int sum = 0;
      int rest = number;
      for (int place = LAST_PLACE; place >= 0; place--) {
        sum += Math.abs(tied[cord][place] - rest % 10);
        rest = rest / 10;
      }
      return sum;
    }

    private void copyFrom(Knots other) {
      for (int cord = 0; cord < MOST_CORDS; cord++) {
        System.arraycopy(other.tied[cord], 0, tied[cord], 0, PLACES);
        System.arraycopy(other.frays[cord], 0, frays[cord], 0, PLACES);
      }
    }

    /** Returns how many knots are lost. */
    private int fray(Cords cords, int years) {
      int lostNow = 0;
      for (int i = 0; i < years; i++) {
        for (int cord = 0; cord < cords.size; cord++) {
          int strand = cords.strands[cord];
          int step = strand == GREATEST || strand == MULTIPLIED ? 2 : 1;
          lostNow += frayCord(cord, step);
        }
      }
      return lostNow;
    }

    private int frayCord(int cord, int step) {
      int lostNow = 0;
      for (int place = 0; place < PLACES; place++) {
        if (tied[cord][place] > 0) {
          frays[cord][place] += step;
          if (frays[cord][place] >= FRAYED_THROUGH) {
            tied[cord][place]--;
            frays[cord][place] = 0;
            lostNow++;
          }
        }
      }
      return lostNow;
    }
  }

  /** The witnesses' trust, and what they remember of each cord. */
  private static final class Witnesses {
    private final int[] trusts = new int[MOST_WITNESSES];
    private final int[][] numbers = new int[MOST_WITNESSES][MOST_CORDS];
    /** NONE where the witness does not remember the cord: a number of -1 can be remembered, a year not. */
    private final int[][] years = new int[MOST_WITNESSES][MOST_CORDS];
    private int size = 0;

    private int add() {
      int witness = size;
      trusts[witness] = FIRST_TRUST;
      for (int cord = 0; cord < MOST_CORDS; cord++) {
        keep(witness, cord, NONE, NONE);
      }
      size = witness + 1;
      return witness;
    }

    private void keep(int witness, int cord, int number, int year) {
      numbers[witness][cord] = number;
      years[witness][cord] = year;
    }

    private boolean knows(int witness, int cord) {
      return years[witness][cord] != NONE;
    }

    private boolean knowsAs(int witness, int cord, int number) {
      return knows(witness, cord) && numbers[witness][cord] == number;
    }

    private int memory(int witness, int cord, int what) {
      switch (what) {
        case 0:
          return numbers[witness][cord];
        case 1:
          return years[witness][cord];
        default:
          return knows(witness, cord) ? 1 : 0;
      }
    }

    /** A witness who remembers the number that is told in a dispute, or NONE if nobody remembers the cord. */
    private int mostTrusted(int cord) {
      int speaker = NONE;
      for (int witness = 0; witness < size; witness++) {
        if (knows(witness, cord) && (speaker == NONE || outspeaks(witness, speaker, cord))) {
          speaker = witness;
        }
      }
      return speaker;
    }

    private boolean outspeaks(int witness, int other, int cord) {
      int number = numbers[witness][cord];
      int otherNumber = numbers[other][cord];
      int byTrust = Integer.compare(jointTrust(cord, number), jointTrust(cord, otherNumber));
      if (byTrust != 0) {
        return byTrust > 0;
      }
      int byYear = Integer.compare(latestYear(cord, number), latestYear(cord, otherNumber));
      if (byYear != 0) {
        return byYear > 0;
      }
      return number < otherNumber;
    }

    private int jointTrust(int cord, int number) {
      int sum = 0;
      for (int witness = 0; witness < size; witness++) {
        if (knowsAs(witness, cord, number)) {
          sum += trusts[witness];
        }
      }
      return sum;
    }

    private int latestYear(int cord, int number) {
      int latest = NONE;
      for (int witness = 0; witness < size; witness++) {
        if (knowsAs(witness, cord, number)) {
          latest = Math.max(latest, years[witness][cord]);
        }
      }
      return latest;
    }

    private void judge(int cord, int told) {
      for (int witness = 0; witness < size; witness++) {
        if (knowsAs(witness, cord, told)) {
          trusts[witness] = Math.min(trusts[witness] + 1, MOST_TRUST);
        } else if (knows(witness, cord)) {
          trusts[witness] = Math.max(trusts[witness] - 1, 0);
        }
      }
    }
  }

  /** Who untied what: a row each with what untying tells, in its order. */
  private static final class Untyings {
    private final int[][] rows = new int[MOST_UNTYINGS][UNTYING_WHATS];
    private int size = 0;

    private void write(int witness, int cord, int place, int knots, int year) {
      int[] row = rows[size];
      row[0] = witness;
      row[1] = cord;
      row[2] = place;
      row[3] = knots;
      row[4] = year;
      size++;
    }
  }
}
