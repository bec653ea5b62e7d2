/**
 * What the tests share: checks that are counted, calls that must be refused without a trace, and
 * desks in several states. A test extends this class, runs its parts, and ends with a call of end().
 */
abstract class DeskChecks {
  static final int MIN = Integer.MIN_VALUE;
  static final int MAX = Integer.MAX_VALUE;
  static final String ARGUMENT = "IllegalArgumentException";
  static final String STATE = "IllegalStateException";
  static final String INDEX = "IndexOutOfBoundsException";
  static final String ELEMENT = "NoSuchElementException";

  interface Call {
    Object on(PipersDesk desk);
  }

  interface TuneCall {
    Object on(PipersDesk desk, int tune);
  }

  interface NumberCall {
    Object on(PipersDesk desk, int tune, int number);
  }

  interface Maker {
    PipersDesk make();
  }

  private static final Maker[] STATES = {
    DeskChecks::fresh, DeskChecks::furnished, DeskChecks::full, DeskChecks::hopeless, DeskChecks::apart
  };

  private static String promise = "";
  private static String edge = "";
  private static int line = 0;
  private static int checks = 0;
  private static int wrong = 0;

  static void promise(String name) {
    of(name);
    edge("");
  }

  /** The checks that follow are of this promise, at the edge that was named. */
  static void of(String name) {
    promise = name;
  }

  static void edge(String name) {
    edge = name;
    line = 0;
  }

  /** Runs a part of a test. A call that throws where none is looked for fails, and ends the part alone. */
  static void part(Runnable part) {
    try {
      part.run();
    } catch (RuntimeException e) {
      same("the exception " + e, "none");
    }
  }

  static void end() {
    System.out.println(wrong == 0 ? "all " + checks + " checks hold" : wrong + " checks failed");
    if (wrong != 0) System.exit(1);
  }

  static String outcome(PipersDesk desk, Call call) {
    try {
      return String.valueOf(call.on(desk));
    } catch (RuntimeException e) {
      return e.getClass().getSimpleName();
    }
  }

  static void same(String got, String want) {
    line++;
    checks++;
    if (!got.equals(want)) {
      wrong++;
      System.out.println(promise + (edge.isEmpty() ? "" : ", " + edge) + ", check " + line + ": answered " + got + ", due is " + want);
    }
  }

  static void due(Object want, PipersDesk desk, Call call) {
    same(outcome(desk, call), String.valueOf(want));
  }

  /** A call that throws, on a desk that answers all other calls as a twin that never had it. */
  static void refused(String exception, Maker maker, Call call) {
    PipersDesk desk = maker.make();
    due(exception, desk, call);
    same(probe(desk), probe(maker.make()));
  }

  static void refusedInEveryState(String exception, Call call) {
    for (Maker maker : STATES) {
      refused(exception, maker, call);
    }
  }

  static void tuneRefused(TuneCall call) {
    for (int tune : new int[] {-1, 4, MIN, MAX}) {
      refusedInEveryState(ARGUMENT, d -> call.on(d, tune));
    }
  }

  /** In every state and every tune: the numbers on either side of those that there are. */
  static void numberRefused(boolean ofGap, NumberCall call) {
    for (Maker maker : STATES) {
      PipersDesk desk = maker.make();
      for (int t = 0; t < 4; t++) {
        int tune = t;
        int end = Math.max(0, ofGap ? desk.notes(t) - 1 : desk.notes(t));
        for (int number : new int[] {-1, end, end + 1, MIN, MAX}) {
          refused(INDEX, maker, d -> call.on(d, tune, number));
        }
      }
    }
  }

  /** What a desk answers to at most 360 calls; the last of them change it. */
  private static String probe(PipersDesk desk) {
    StringBuilder told = new StringBuilder();
    for (int from = 0; from < 9; from++) {
      for (int to = from + 1; to < 9; to++) {
        told.append(desk.isBarred(from, to) ? 'x' : '.');
      }
    }
    told.append(' ').append(desk.ornaments());
    for (int o = 0; o < desk.ornaments(); o++) {
      told.append(desk.fits(o, 0, 5, 1)).append(desk.fits(o, 8, 2, 8)).append(desk.fits(o, 5, 3, 2));
    }
    for (int t = 0; t < 4; t++) {
      probeTune(desk, t, told);
    }
    told.append(outcome(desk, d -> d.sets())).append(outcome(desk, d -> d.leastSet()));
    for (int place = 0; place < 4; place++) {
      int at = place;
      told.append(' ').append(outcome(desk, d -> d.tuneAt(at)));
    }
    desk.setLimit(8);
    for (int t = 0; t < 4; t++) {
      takeApart(desk, t, told);
    }
    probeDraft(desk, told);
    return told.toString();
  }

  private static void probeTune(PipersDesk desk, int t, StringBuilder told) {
    int notes = desk.notes(t);
    told.append(" tune ").append(notes).append(' ').append(desk.choices(t));
    told.append(outcome(desk, d -> d.least(t))).append(' ').append(outcome(desk, d -> d.mostOrnaments(t)));
    told.append(outcome(desk, d -> d.average(t)));
    for (int i = 0; i < notes; i++) {
      int at = i;
      told.append(' ').append(outcome(desk, d -> d.time(t, at)));
      told.append(' ').append(outcome(desk, d -> d.fitting(t, at)));
      told.append(' ').append(outcome(desk, d -> d.chosen(t, at)));
    }
  }

  private static void takeApart(PipersDesk desk, int t, StringBuilder told) {
    int notes = desk.notes(t);
    for (int gap = 0; gap + 1 < notes; gap++) {
      told.append(desk.setWish(t, gap, false));
    }
    for (int i = notes - 1; i >= 0; i--) {
      int last = i;
      told.append(' ').append(outcome(desk, d -> d.time(t, last))).append('/').append(desk.removeNote(t));
    }
  }

  private static void probeDraft(PipersDesk desk, StringBuilder told) {
    told.append(outcome(desk, d -> d.grace(0)));
    told.append(outcome(desk, d -> d.enter()));
    int last = desk.ornaments() - 1;
    for (int before = 0; before < 9; before++) {
      int b = before;
      told.append(outcome(desk, d -> d.fits(last, b, 5, 1))).append(outcome(desk, d -> d.fits(last, 1, 5, b)));
    }
  }

  static void graces(PipersDesk desk, int... graces) {
    for (int grace : graces) {
      desk.grace(grace);
    }
  }

  static void ornament(PipersDesk desk, int... graces) {
    graces(desk, graces);
    desk.enter();
  }

  static void tune(PipersDesk desk, int t, int length, int... pitches) {
    for (int pitch : pitches) {
      desk.addNote(t, pitch, length);
    }
  }

  static void wishAll(PipersDesk desk, int t) {
    for (int gap = 0; gap + 1 < desk.notes(t); gap++) {
      desk.setWish(t, gap, true);
    }
  }

  static PipersDesk fresh() {
    return new PipersDesk();
  }

  static PipersDesk furnished() {
    PipersDesk desk = new PipersDesk();
    ornament(desk, 7);
    ornament(desk, 7, 10);
    ornament(desk, 8);
    graces(desk, 6, 9);
    tune(desk, 0, 4, 0, 1, 1, 0);
    tune(desk, 1, 3, 2, 0);
    tune(desk, 2, 2, 1);
    desk.setWish(0, 0, true);
    desk.setLimit(5);
    return desk;
  }

  /** Eight ornaments, a draft of four grace notes, and four tunes with ten notes each. */
  static PipersDesk full() {
    PipersDesk desk = new PipersDesk();
    for (int o = 0; o < 8; o++) {
      ornament(desk, o);
    }
    graces(desk, 7, 7, 7, 7);
    tune(desk, 0, 4, 0, 1, 0, 1, 0, 1, 0, 1, 0, 1);
    tune(desk, 1, 5, 5, 6, 5, 6, 5, 6, 5, 6, 5, 6);
    tune(desk, 2, 32, 8, 0, 8, 0, 8, 0, 8, 0, 8, 0);
    tune(desk, 3, 1, 1, 2, 1, 2, 1, 2, 1, 2, 1, 2);
    desk.setWish(0, 8, true);
    desk.setWish(2, 0, true);
    return desk;
  }

  /** A tune without a choice, and so no set with one: the one ornament cannot stand at both gaps. */
  static PipersDesk hopeless() {
    PipersDesk desk = new PipersDesk();
    ornament(desk, 7);
    tune(desk, 0, 4, 0, 0, 0);
    tune(desk, 1, 4, 1);
    return desk;
  }

  /** Two tunes that have choices, but no set: the movement from one to the other is barred. */
  static PipersDesk apart() {
    PipersDesk desk = new PipersDesk();
    tune(desk, 0, 4, 4);
    tune(desk, 2, 4, 5);
    return desk;
  }

  /** Nine gaps, at each of which eight ornaments fit, or none. */
  static PipersDesk greatest() {
    PipersDesk desk = new PipersDesk();
    for (int o = 0; o < 8; o++) {
      ornament(desk, 1);
    }
    tune(desk, 0, 32, 0, 2, 0, 2, 0, 2, 0, 2, 0, 2);
    return desk;
  }
}
