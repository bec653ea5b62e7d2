import java.util.ArrayList;
import java.util.Arrays;
import java.util.List;
import java.util.NoSuchElementException;

/**
 * Runs of calls from a fixed seed, each answered by PipersDesk and by a model that does literally
 * what the document's words say: it goes through every choice and every order one by one.
 */
public final class PipersDeskModel {
  /** A row of notes, a tune or a set's long one: pitch, length, and the wish at the gap behind. */
  private static final class Note {
    final int pitch;
    final int length;
    boolean wish;

    Note(int pitch, int length) {
      this.pitch = pitch;
      this.length = length;
    }
  }

  private static final class Found {
    long count = 0;
    int least = Integer.MAX_VALUE;
    int[] first = null;
    int most = -1;
  }

  private static final class TooMany extends RuntimeException {
    private static final long serialVersionUID = 1;
  }

  private static final class Model {
    static final String[] CLOSED = {
      "01234567", "0123456", "012345", "012347", "01237", "012456", "01456", "0456", "1456"
    };
    int limit = 3;
    final List<Integer> draft = new ArrayList<>();
    final List<int[]> ornaments = new ArrayList<>();
    final List<List<Note>> tunes = new ArrayList<>();
    long stepsLeft;

    Model() {
      for (int t = 0; t < 4; t++) tunes.add(new ArrayList<>());
    }

    static void range(int x, int low, int high) {
      if (x < low || x > high) throw new IllegalArgumentException();
    }

    static void index(int x, int size) {
      if (x < 0 || x >= size) throw new IndexOutOfBoundsException();
    }

    static int opened(int from, int to) {
      int n = 0;
      for (char hole : CLOSED[from].toCharArray()) if (CLOSED[to].indexOf(hole) < 0) n++;
      return n;
    }

    int cost(int from, int to) {
      range(from, 0, 8);
      range(to, 0, 8);
      return opened(from, to) + opened(to, from);
    }

    boolean isBarred(int from, int to) {
      return cost(from, to) > limit && opened(from, to) > 0 && opened(to, from) > 0;
    }

    int setLimit(int limit) {
      range(limit, 0, 8);
      this.limit = limit;
      int n = 0;
      for (int a = 0; a < 9; a++) for (int b = 0; b < 9; b++) if (a != b && isBarred(a, b)) n++;
      return n;
    }

    int grace(int grace) {
      range(grace, 0, 10);
      if (draft.size() == 4) throw new IllegalStateException();
      draft.add(grace);
      return draft.size();
    }

    int enter() {
      if (draft.isEmpty() || ornaments.size() == 8) throw new IllegalStateException();
      int[] graces = new int[draft.size()];
      for (int i = 0; i < graces.length; i++) graces[i] = draft.get(i);
      ornaments.add(graces);
      draft.clear();
      return ornaments.size() - 1;
    }

    boolean fits(int ornament, int before, int length, int behind) {
      index(ornament, ornaments.size());
      range(before, 0, 8);
      range(length, 1, 32);
      range(behind, 0, 8);
      return costOf(ornament, before, length, behind) >= 0;
    }

    /** The cost of what stands at a gap, -1 for none; -1 if it cannot stand there. */
    int costOf(int ornament, int before, int length, int behind) {
      List<Integer> row = new ArrayList<>();
      row.add(before);
      if (ornament >= 0) {
        if (ornaments.get(ornament).length >= length) return -1;
        for (int grace : ornaments.get(ornament)) {
          row.add(grace == 9 ? behind : grace == 10 ? before : grace);
        }
      }
      row.add(behind);
      int sum = 0;
      for (int i = 1; i < row.size(); i++) {
        int from = row.get(i - 1);
        int to = row.get(i);
        if (from == to || isBarred(from, to)) return -1;
        sum += cost(from, to);
      }
      return sum;
    }

    int addNote(int tune, int pitch, int length) {
      range(tune, 0, 3);
      range(pitch, 0, 8);
      range(length, 1, 32);
      List<Note> row = tunes.get(tune);
      if (row.size() == 10) throw new IllegalStateException();
      if (!row.isEmpty()) row.get(row.size() - 1).wish = false;
      row.add(new Note(pitch, length));
      return row.size();
    }

    int removeNote(int tune) {
      range(tune, 0, 3);
      List<Note> row = tunes.get(tune);
      if (row.isEmpty()) throw new NoSuchElementException();
      return row.remove(row.size() - 1).pitch;
    }

    boolean setWish(int tune, int gap, boolean wish) {
      range(tune, 0, 3);
      index(gap, tunes.get(tune).size() - 1);
      boolean before = tunes.get(tune).get(gap).wish;
      tunes.get(tune).get(gap).wish = wish;
      return before;
    }

    int notes(int tune) {
      range(tune, 0, 3);
      return tunes.get(tune).size();
    }

    int time(int tune, int note) {
      range(tune, 0, 3);
      index(note, tunes.get(tune).size());
      int[] first = needed(tune).first;
      int graces = 0;
      if (note < first.length && first[note] >= 0) graces = ornaments.get(first[note]).length;
      return tunes.get(tune).get(note).length - graces;
    }

    int fitting(int tune, int gap) {
      range(tune, 0, 3);
      index(gap, tunes.get(tune).size() - 1);
      Note before = tunes.get(tune).get(gap);
      int n = 0;
      for (int o = 0; o < ornaments.size(); o++) {
        if (fits(o, before.pitch, before.length, tunes.get(tune).get(gap + 1).pitch)) n++;
      }
      return n;
    }

    int choices(int tune) {
      range(tune, 0, 3);
      return (int) found(tunes.get(tune)).count;
    }

    int least(int tune) {
      range(tune, 0, 3);
      return needed(tune).least;
    }

    int chosen(int tune, int gap) {
      range(tune, 0, 3);
      index(gap, tunes.get(tune).size() - 1);
      return needed(tune).first[gap];
    }

    int mostOrnaments(int tune) {
      range(tune, 0, 3);
      return needed(tune).most;
    }

    float average(int tune) {
      range(tune, 0, 3);
      Found found = needed(tune);
      return found.first.length == 0 ? 0 : (float) found.least / (float) found.first.length;
    }

    int leastSet() {
      return setOf(bestSet()).least;
    }

    int tuneAt(int place) {
      int[] order = bestSet();
      index(place, order.length);
      return order[place];
    }

    int sets() {
      int n = 0;
      for (int[] order : orders()) if (setOf(order).count > 0) n++;
      return n;
    }

    int[] bestSet() {
      int[] best = null;
      int least = Integer.MAX_VALUE;
      for (int[] order : orders()) {
        Found found = setOf(order);
        if (found.count > 0 && found.least < least) {
          least = found.least;
          best = order;
        }
      }
      if (best == null) throw new IllegalStateException();
      return best;
    }

    List<int[]> orders() {
      List<int[]> all = new ArrayList<>();
      collectOrders(new int[0], all);
      return all;
    }

    void collectOrders(int[] order, List<int[]> all) {
      boolean whole = true;
      for (int t = 0; t < 4; t++) {
        boolean played = false;
        for (int o : order) played |= o == t;
        if (played || tunes.get(t).isEmpty()) continue;
        whole = false;
        int[] longer = Arrays.copyOf(order, order.length + 1);
        longer[order.length] = t;
        collectOrders(longer, all);
      }
      if (whole) all.add(order);
    }

    Found setOf(int[] order) {
      List<Note> row = new ArrayList<>();
      for (int t : order) {
        for (Note note : tunes.get(t)) {
          Note copy = new Note(note.pitch, note.length);
          copy.wish = note.wish;
          row.add(copy);
        }
        row.get(row.size() - 1).wish = false;
      }
      return found(row);
    }

    Found needed(int tune) {
      Found found = found(tunes.get(tune));
      if (found.count == 0) throw new IllegalStateException();
      return found;
    }

    Found found(List<Note> row) {
      Found found = new Found();
      walk(row, new int[Math.max(0, row.size() - 1)], 0, 0, found);
      return found;
    }

    void walk(List<Note> row, int[] choice, int gap, int cost, Found found) {
      if (stepsLeft-- <= 0) throw new TooMany();
      if (gap == choice.length) {
        int most = 0;
        for (int o : choice) if (o >= 0) most++;
        found.count++;
        found.most = Math.max(found.most, most);
        if (cost < found.least) {
          found.least = cost;
          found.first = choice.clone();
        }
        return;
      }
      Note before = row.get(gap);
      for (int o = -1; o < ornaments.size(); o++) {
        if (o < 0 && before.wish || o >= 0 && gap > 0 && choice[gap - 1] == o) continue;
        int more = costOf(o, before.pitch, before.length, row.get(gap + 1).pitch);
        if (more < 0) continue;
        choice[gap] = o;
        walk(row, choice, gap + 1, cost + more, found);
      }
    }
  }

  private static final String[] NAMES = {
    "cost", "isBarred", "setLimit", "grace", "enter", "ornaments", "fits", "addNote", "removeNote",
    "setWish", "notes", "time", "fitting", "choices", "least", "chosen", "mostOrnaments", "average",
    "leastSet", "tuneAt", "sets"
  };

  private static String ask(PipersDesk x, String name, int[] a) {
    try {
      switch (name) {
        case "cost": return "" + x.cost(a[0], a[1]);
        case "isBarred": return "" + x.isBarred(a[0], a[1]);
        case "setLimit": return "" + x.setLimit(a[0]);
        case "grace": return "" + x.grace(a[0]);
        case "enter": return "" + x.enter();
        case "ornaments": return "" + x.ornaments();
        case "fits": return "" + x.fits(a[0], a[1], a[2], a[3]);
        case "addNote": return "" + x.addNote(a[0], a[1], a[2]);
        case "removeNote": return "" + x.removeNote(a[0]);
        case "setWish": return "" + x.setWish(a[0], a[1], a[2] > 0);
        case "notes": return "" + x.notes(a[0]);
        case "time": return "" + x.time(a[0], a[1]);
        case "fitting": return "" + x.fitting(a[0], a[1]);
        case "choices": return "" + x.choices(a[0]);
        case "least": return "" + x.least(a[0]);
        case "chosen": return "" + x.chosen(a[0], a[1]);
        case "mostOrnaments": return "" + x.mostOrnaments(a[0]);
        case "average": return "" + x.average(a[0]);
        case "leastSet": return "" + x.leastSet();
        case "tuneAt": return "" + x.tuneAt(a[0]);
        default: return "" + x.sets();
      }
    } catch (RuntimeException e) {
      return e.getClass().getSimpleName();
    }
  }

  private static String ask(Model x, String name, int[] a) {
    try {
      switch (name) {
        case "cost": return "" + x.cost(a[0], a[1]);
        case "isBarred": return "" + x.isBarred(a[0], a[1]);
        case "setLimit": return "" + x.setLimit(a[0]);
        case "grace": return "" + x.grace(a[0]);
        case "enter": return "" + x.enter();
        case "ornaments": return "" + x.ornaments.size();
        case "fits": return "" + x.fits(a[0], a[1], a[2], a[3]);
        case "addNote": return "" + x.addNote(a[0], a[1], a[2]);
        case "removeNote": return "" + x.removeNote(a[0]);
        case "setWish": return "" + x.setWish(a[0], a[1], a[2] > 0);
        case "notes": return "" + x.notes(a[0]);
        case "time": return "" + x.time(a[0], a[1]);
        case "fitting": return "" + x.fitting(a[0], a[1]);
        case "choices": return "" + x.choices(a[0]);
        case "least": return "" + x.least(a[0]);
        case "chosen": return "" + x.chosen(a[0], a[1]);
        case "mostOrnaments": return "" + x.mostOrnaments(a[0]);
        case "average": return "" + x.average(a[0]);
        case "leastSet": return "" + x.leastSet();
        case "tuneAt": return "" + x.tuneAt(a[0]);
        default: return "" + x.sets();
      }
    } catch (RuntimeException e) {
      return e.getClass().getSimpleName();
    }
  }

  private static long seed;

  private static int pick(int bound) {
    seed = seed * 6364136223846793005L + 1442695040888963407L;
    return (int) ((seed >>> 33) % bound);
  }

  /** Mostly a number from low to high, now and then one beside or far away. */
  private static int near(int low, int high) {
    int dice = pick(40);
    if (dice == 0) return low - 1;
    if (dice == 1) return high + 1;
    if (dice == 2) return pick(2) == 0 ? Integer.MIN_VALUE : Integer.MAX_VALUE;
    return low + pick(high - low + 1);
  }

  private static int length() {
    return pick(2) == 0 ? near(1, 6) : near(1, 32);
  }

  /** How much a run fills its desk: small ones keep the model's walks short. */
  private static final class Size {
    final int ornaments;
    final int notes;
    final int tunes;

    Size(int ornaments, int notes, int tunes) {
      this.ornaments = ornaments;
      this.notes = notes;
      this.tunes = tunes;
    }

    boolean holds(Model model, String name, int tune) {
      if (name.equals("enter")) return model.ornaments.size() < ornaments;
      if (!name.equals("addNote")) return true;
      return tune < 0 || tune >= tunes || model.tunes.get(tune).size() < notes;
    }
  }

  private static int[] argumentsFor(String name, Size size, Model model) {
    int tune = near(0, size.tunes - 1);
    int notes = tune >= 0 && tune < 4 ? model.tunes.get(tune).size() : 1;
    switch (name) {
      case "cost":
      case "isBarred": return new int[] {near(0, 8), near(0, 8)};
      case "setLimit": return new int[] {near(pick(4), 8)};
      case "grace": return new int[] {near(0, 10)};
      case "fits": return new int[] {near(0, Math.max(0, model.ornaments.size() - 1)), near(0, 8), length(), near(0, 8)};
      case "addNote": return new int[] {tune, near(0, 8), length()};
      case "setWish": return new int[] {tune, near(0, Math.max(0, notes - 2)), pick(3) - 1};
      case "time": return new int[] {tune, near(0, Math.max(0, notes - 1))};
      case "fitting":
      case "chosen": return new int[] {tune, near(0, Math.max(0, notes - 2))};
      case "tuneAt": return new int[] {near(0, 3)};
      default: return new int[] {tune};
    }
  }

  private static String nextName() {
    int dice = pick(100);
    if (dice < 20) return "addNote";
    if (dice < 26) return "grace";
    if (dice < 31) return "enter";
    if (dice < 34) return "removeNote";
    return NAMES[pick(NAMES.length)];
  }

  private static int wrong = 0;
  private static int compared = 0;
  private static int answered = 0;

  private static void run(int number, Size size, int calls) {
    seed = number * 7919L + 17;
    PipersDesk desk = new PipersDesk();
    Model model = new Model();
    List<String> told = new ArrayList<>();
    for (int i = 0; i < calls; i++) {
      String name = nextName();
      int[] arguments = argumentsFor(name, size, model);
      if (!size.holds(model, name, arguments[0])) continue;
      model.stepsLeft = 10000;
      String want = ask(model, name, arguments);
      String got = ask(desk, name, arguments);
      told.add(name + Arrays.toString(arguments) + " " + got);
      if (want.equals("TooMany")) continue;
      compared++;
      if (!want.endsWith("Exception")) answered++;
      if (!want.equals(got)) {
        wrong++;
        System.out.println("run " + number + ": " + told + ", due is " + want);
        return;
      }
    }
  }

  public static void main(String[] args) {
    for (int number = 0; number < 150; number++) {
      run(number, new Size(2, 3, 4), 512);
      run(1000 + number, new Size(3, 5, 2), 512);
      run(2000 + number, new Size(4, 6, 1), 512);
      run(3000 + number, new Size(8, 2, 4), 512);
      run(4000 + number, new Size(1, 10, 1), 512);
    }
    for (int number = 0; number < 40; number++) {
      run(5000 + number, new Size(99, 99, 4), 512);
    }
    System.out.println(compared + " answers compared, " + answered + " of them no exceptions, " + wrong + " wrong");
    if (wrong != 0 || answered < 100000) System.exit(1);
  }
}
