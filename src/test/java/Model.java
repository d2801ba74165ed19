import java.util.ArrayList;
import java.util.LinkedHashMap;
import java.util.List;
import java.util.Map;
import java.util.TreeMap;
import java.util.stream.IntStream;

/**
 * The document told a second time, in another way: a tree of objects, texts for digits and maps for disputes. It shares
 * no code and no shape with the class, so that a slip in one of them shows in the other.
 */
final class Model {
  private static final class Cord {
    int number;
    Cord from;
    int strand;
    String digits = "0000";
    int[] frays = new int[4];
    List<Cord> hanging = new ArrayList<>();

    int said() {
      return Integer.parseInt(digits) + counted();
    }

    int counted() {
      IntStream said = hanging.stream().mapToInt(Cord::said);
      if (hanging.isEmpty()) {
        return 0;
      }
      switch (strand) {
        case 0:
          return (int) said.asLongStream().sum();
        case 1:
          return (int) (2L * hanging.get(0).said() - said.asLongStream().sum());
        case 2:
          return said.max().getAsInt();
        case 3:
          return (int) said.filter(number -> number > 0).count();
        default:
          return said.reduce(1, (a, b) -> (int) ((long) a * b));
      }
    }

    boolean agrees() {
      return hanging.isEmpty() || Integer.parseInt(digits) == counted();
    }

    int knots(int place) {
      return digits.charAt(place) - '0';
    }

    void tie(int place, int knots) {
      digits = digits.substring(0, place) + knots + digits.substring(place + 1);
    }

    int year() {
      int lost = 0;
      for (int place = 0; place < 4; place++) {
        if (knots(place) == 0) {
          continue;
        }
        frays[place] += List.of(2, 4).contains(strand) ? 2 : 1;
        if (frays[place] > 9) {
          tie(place, knots(place) - 1);
          frays[place] = 0;
          lost++;
        }
      }
      return lost;
    }
  }

  private static final class Witness {
    int trust = 10;
    Map<Integer, int[]> memories = new TreeMap<>();
  }

  private final List<Cord> cords = new ArrayList<>();
  private final List<Witness> witnesses = new ArrayList<>();
  private final List<int[]> untyings = new ArrayList<>();
  private int year = 0;
  private int lost = 0;

  private static void within(int number, int bound) {
    if (number < 0 || number >= bound) {
      throw new IndexOutOfBoundsException();
    }
  }

  private static void argument(boolean good) {
    if (!good) {
      throw new IllegalArgumentException();
    }
  }

  private static void state(boolean good) {
    if (!good) {
      throw new IllegalStateException();
    }
  }

  private Cord at(int cord) {
    within(cord, cords.size());
    return cords.get(cord);
  }

  private Witness by(int witness) {
    within(witness, witnesses.size());
    return witnesses.get(witness);
  }

  int hang(int from, int strand) {
    Cord over = from == -1 ? null : at(from);
    argument(strand >= 0 && strand <= 4);
    state(cords.size() < 16 && (over == null || over.hanging.size() < 6));
    Cord cord = new Cord();
    cord.number = cords.size();
    cord.from = over;
    cord.strand = strand;
    cords.add(cord);
    if (over != null) {
      over.hanging.add(cord);
    }
    return cord.number;
  }

  int tie(int cord, int number) {
    Cord tied = at(cord);
    argument(number >= 0 && number <= 9999);
    int before = Integer.parseInt(tied.digits);
    tied.digits = String.format("%04d", number);
    tied.frays = new int[4];
    return before;
  }

  int untie(int witness, int cord, int place, int knots) {
    by(witness);
    Cord untied = at(cord);
    within(place, 4);
    argument(knots >= 1 && knots <= 9);
    state(untied.knots(place) >= knots && untyings.size() < 30);
    untied.tie(place, untied.knots(place) - knots);
    untyings.add(new int[] {witness, cord, place, knots, year});
    return Integer.parseInt(untied.digits);
  }

  int mend(int cord) {
    int before = IntStream.of(at(cord).frays).sum();
    at(cord).frays = new int[4];
    return before;
  }

  int cord(int cord, int what) {
    Cord told = at(cord);
    within(what, 8);
    return new int[] {
      told.from == null ? -1 : told.from.number, told.strand, Integer.parseInt(told.digits), told.said(),
      told.counted(), told.hanging.size(), told.agrees() ? 1 : 0, IntStream.of(told.frays).sum(),
    }[what];
  }

  int place(int cord, int place, int what) {
    Cord told = at(cord);
    within(place, 4);
    within(what, 2);
    return new int[] {told.knots(place), told.frays[place]}[what];
  }

  int call() {
    state(witnesses.size() < 6);
    witnesses.add(new Witness());
    return witnesses.size() - 1;
  }

  int read(int witness, int cord) {
    Witness reader = by(witness);
    int said = at(cord).said();
    reader.memories.put(cord, new int[] {said, year});
    return said;
  }

  int remembers(int witness, int cord, int what) {
    Witness asked = by(witness);
    at(cord);
    within(what, 3);
    int[] memory = asked.memories.get(cord);
    return memory == null ? new int[] {-1, -1, 0}[what] : new int[] {memory[0], memory[1], 1}[what];
  }

  int trust(int witness) {
    return by(witness).trust;
  }

  int dispute(int cord) {
    at(cord);
    // Behind each number: the trust, then the latest year.
    Map<Integer, int[]> voices = new LinkedHashMap<>();
    for (Witness witness : witnesses) {
      int[] memory = witness.memories.get(cord);
      if (memory != null) {
        int[] voice = voices.computeIfAbsent(memory[0], number -> new int[2]);
        voice[0] += witness.trust;
        voice[1] = Math.max(voice[1], memory[1]);
      }
    }
    state(!voices.isEmpty());
    List<Integer> numbers = new ArrayList<>(voices.keySet());
    numbers.sort((a, b) -> {
      int[] one = voices.get(a);
      int[] other = voices.get(b);
      return one[0] != other[0] ? other[0] - one[0] : one[1] != other[1] ? other[1] - one[1] : a.compareTo(b);
    });
    int told = numbers.get(0);
    for (Witness witness : witnesses) {
      int[] memory = witness.memories.get(cord);
      if (memory != null) {
        int next = witness.trust + (memory[0] == told ? 1 : -1);
        witness.trust = next > 20 ? 20 : next < 0 ? 0 : next;
      }
    }
    return told;
  }

  int untying(int index, int what) {
    within(index, untyings.size());
    within(what, 5);
    return untyings.get(index)[what];
  }

  int pass(int years) {
    argument(years >= 1 && years <= 50);
    int before = lost;
    for (int i = 0; i < years; i++) {
      cords.forEach(cord -> lost += cord.year());
      year++;
    }
    return lost - before;
  }

  int count(int what) {
    within(what, 8);
    int knots = 0;
    int disagreeing = 0;
    int atBeam = 0;
    for (Cord cord : cords) {
      knots += cord.digits.chars().map(digit -> digit - '0').sum();
      disagreeing += cord.agrees() ? 0 : 1;
      atBeam += cord.from == null ? cord.said() : 0;
    }
    return new int[] {
      year, cords.size(), witnesses.size(), knots, untyings.size(), disagreeing, atBeam, lost,
    }[what];
  }

  int fades(int cord, int years) {
    Cord asked = at(cord);
    argument(years >= 1 && years <= 50);
    List<String> digits = new ArrayList<>();
    List<int[]> frays = new ArrayList<>();
    for (Cord kept : cords) {
      digits.add(kept.digits);
      frays.add(kept.frays.clone());
    }
    for (int i = 0; i < years; i++) {
      cords.forEach(Cord::year);
    }
    int said = asked.said();
    for (Cord kept : cords) {
      kept.digits = digits.get(kept.number);
      kept.frays = frays.get(kept.number);
    }
    return said;
  }

  int amends(int cord) {
    Cord asked = at(cord);
    if (asked.agrees()) {
      return 0;
    }
    if (asked.counted() < 0 || asked.counted() > 9999) {
      return -1;
    }
    String due = String.format("%04d", asked.counted());
    return IntStream.range(0, 4).map(place -> Math.abs(due.charAt(place) - asked.digits.charAt(place))).sum();
  }

  int weighs() {
    TreeMap<Long, Integer> byChange = new TreeMap<>();
    for (Cord cord : cords) {
      String digits = cord.digits;
      if (digits.charAt(3) != '9') {
        long before = cords.get(0).said();
        cord.tie(3, cord.knots(3) + 1);
        long change = Math.abs(cords.get(0).said() - before);
        cord.digits = digits;
        byChange.putIfAbsent(Math.min(change, 2147483647L), cord.number);
      }
    }
    return byChange.isEmpty() || byChange.lastKey() == 0 ? -1 : byChange.lastEntry().getValue();
  }

  int line(int cord) {
    Cord told = at(cord);
    return (cord + ":" + told.strand + ":" + Integer.parseInt(told.digits)).hashCode();
  }

  double mean() {
    return witnesses.stream().mapToInt(witness -> witness.trust).average().orElse(0);
  }

  long digest() {
    List<Integer> numbers = new ArrayList<>();
    IntStream.range(0, 8).forEach(what -> numbers.add(count(what)));
    for (Cord cord : cords) {
      IntStream.range(0, 8).forEach(what -> numbers.add(cord(cord.number, what)));
      for (int place = 0; place < 4; place++) {
        numbers.add(cord.knots(place));
        numbers.add(cord.frays[place]);
      }
    }
    for (int witness = 0; witness < witnesses.size(); witness++) {
      numbers.add(trust(witness));
      for (int cord = 0; cord < cords.size(); cord++) {
        for (int what = 0; what < 3; what++) {
          numbers.add(remembers(witness, cord, what));
        }
      }
    }
    untyings.forEach(untying -> IntStream.of(untying).forEach(numbers::add));
    long d = 797;
    for (int number : numbers) {
      d = d * 31 + number;
    }
    return d;
  }
}
