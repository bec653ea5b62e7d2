/** The edges that the document names for a new object and for movements: promises 1 to 4. */
public final class PipersDeskMovementEdges extends DeskChecks {
  private static final int[][] COSTS = {
    {0, 1, 2, 2, 3, 2, 3, 4, 4},
    {1, 0, 1, 3, 4, 1, 2, 3, 3},
    {2, 1, 0, 2, 3, 2, 3, 4, 4},
    {2, 3, 2, 0, 1, 4, 5, 6, 6},
    {3, 4, 3, 1, 0, 5, 6, 7, 7},
    {2, 1, 2, 4, 5, 0, 1, 2, 2},
    {3, 2, 3, 5, 6, 1, 0, 1, 1},
    {4, 3, 4, 6, 7, 2, 1, 0, 2},
    {4, 3, 4, 6, 7, 2, 1, 2, 0}
  };

  /** The movements that cross, each in one of its two directions. */
  private static final int[][] CROSSING = {
    {2, 3}, {2, 5}, {7, 8}, {1, 3}, {2, 4}, {2, 6}, {1, 4}, {2, 7}, {2, 8}, {3, 5}, {3, 6}, {4, 5},
    {3, 7}, {3, 8}, {4, 6}, {4, 7}, {4, 8}
  };

  private static final int[] BARRED_BY_LIMIT = {34, 34, 28, 22, 14, 10, 4, 0, 0};

  private static boolean crosses(int from, int to) {
    for (int[] pair : CROSSING) {
      if (pair[0] == from && pair[1] == to || pair[0] == to && pair[1] == from) {
        return true;
      }
    }
    return false;
  }

  private static PipersDesk limited(int limit) {
    PipersDesk desk = new PipersDesk();
    desk.setLimit(limit);
    return desk;
  }

  private static void newObject() {
    promise("1 A new object");
    edge("there is no ornament");
    due(0, fresh(), d -> d.ornaments());
    due(INDEX, fresh(), d -> d.fits(0, 0, 4, 1));
    edge("the draft is empty");
    due(STATE, fresh(), d -> d.enter());
    due(1, fresh(), d -> d.grace(0));
    edge("the limit is 3");
    due(false, fresh(), d -> d.isBarred(1, 3));
    due(true, fresh(), d -> d.isBarred(1, 4));
    for (int t = 0; t < 4; t++) {
      int tune = t;
      edge("tune " + t + " has no notes and no gaps");
      due(0, fresh(), d -> d.notes(tune));
      due(ELEMENT, fresh(), d -> d.removeNote(tune));
      due(INDEX, fresh(), d -> d.setWish(tune, 0, true));
      due(INDEX, fresh(), d -> d.time(tune, 0));
      due(INDEX, fresh(), d -> d.fitting(tune, 0));
      due(INDEX, fresh(), d -> d.chosen(tune, 0));
      edge("tune " + t + " has one choice, which costs 0");
      due(1, fresh(), d -> d.choices(tune));
      due(0, fresh(), d -> d.least(tune));
      due(0, fresh(), d -> d.mostOrnaments(tune));
      due(0.0f, fresh(), d -> d.average(tune));
    }
    edge("the only set is that of no tunes");
    due(1, fresh(), d -> d.sets());
    due(0, fresh(), d -> d.leastSet());
    due(INDEX, fresh(), d -> d.tuneAt(0));
    edge("a desk made later has nothing of one that is full");
    PipersDesk used = full();
    PipersDesk later = new PipersDesk();
    used.setLimit(0);
    due(0, later, d -> d.ornaments());
    due(0, later, d -> d.notes(0));
    due(false, later, d -> d.isBarred(1, 3));
    due(1, later, d -> d.grace(0));
    edge("a desk made later takes nothing from one that is full");
    due(8, used, d -> d.ornaments());
    due(10, used, d -> d.notes(3));
    due(STATE, used, d -> d.grace(0));
  }

  private static void cost() {
    promise("2 cost");
    edge("each pitch to each other one, and to itself");
    PipersDesk desk = new PipersDesk();
    for (int a = 0; a < 9; a++) {
      for (int b = 0; b < 9; b++) {
        int from = a;
        int to = b;
        due(COSTS[a][b], desk, d -> d.cost(from, to));
      }
    }
    edge("the limit changes no cost");
    for (int limit = 0; limit <= 8; limit++) {
      due(1, limited(limit), d -> d.cost(0, 1));
      due(7, limited(limit), d -> d.cost(4, 8));
      due(7, limited(limit), d -> d.cost(8, 4));
      due(0, limited(limit), d -> d.cost(8, 8));
    }
    for (int pitch : new int[] {-1, 9, 10, MIN, MAX}) {
      edge("from " + pitch);
      refusedInEveryState(ARGUMENT, d -> d.cost(pitch, 0));
      refusedInEveryState(ARGUMENT, d -> d.cost(pitch, 8));
      edge("to " + pitch);
      refusedInEveryState(ARGUMENT, d -> d.cost(0, pitch));
      refusedInEveryState(ARGUMENT, d -> d.cost(8, pitch));
      edge("from and to " + pitch);
      refusedInEveryState(ARGUMENT, d -> d.cost(pitch, pitch));
    }
  }

  private static void isBarred() {
    promise("3 isBarred");
    for (int limit = 0; limit <= 8; limit++) {
      PipersDesk desk = limited(limit);
      edge("each pitch to each other one at the limit " + limit);
      for (int a = 0; a < 9; a++) {
        for (int b = 0; b < 9; b++) {
          int from = a;
          int to = b;
          due(crosses(a, b) && COSTS[a][b] > limit, desk, d -> d.isBarred(from, to));
        }
      }
    }
    edge("a cost that is the limit, and one that is greater by 1");
    due(false, limited(2), d -> d.isBarred(2, 3));
    due(true, limited(1), d -> d.isBarred(2, 3));
    due(false, limited(7), d -> d.isBarred(4, 8));
    due(true, limited(6), d -> d.isBarred(4, 8));
    edge("holes are opened only, or closed only");
    due(false, limited(0), d -> d.isBarred(0, 8));
    due(false, limited(0), d -> d.isBarred(8, 0));
    edge("from a pitch to itself");
    for (int p = 0; p < 9; p++) {
      int pitch = p;
      due(false, limited(0), d -> d.isBarred(pitch, pitch));
    }
    for (int pitch : new int[] {-1, 9, 10, MIN, MAX}) {
      edge("from " + pitch);
      refusedInEveryState(ARGUMENT, d -> d.isBarred(pitch, 0));
      refusedInEveryState(ARGUMENT, d -> d.isBarred(pitch, 8));
      edge("to " + pitch);
      refusedInEveryState(ARGUMENT, d -> d.isBarred(0, pitch));
      refusedInEveryState(ARGUMENT, d -> d.isBarred(8, pitch));
      edge("from and to " + pitch);
      refusedInEveryState(ARGUMENT, d -> d.isBarred(pitch, pitch));
    }
  }

  private static void setLimit() {
    promise("4 setLimit");
    PipersDesk desk = new PipersDesk();
    for (int l = 0; l <= 8; l++) {
      int limit = l;
      edge("the limit " + limit + " on a new desk");
      due(BARRED_BY_LIMIT[limit], fresh(), d -> d.setLimit(limit));
      edge("the limit " + limit + " behind a lower one, and twice");
      due(BARRED_BY_LIMIT[limit], desk, d -> d.setLimit(limit));
      due(BARRED_BY_LIMIT[limit], desk, d -> d.setLimit(limit));
    }
    for (int l = 8; l >= 0; l--) {
      int limit = l;
      edge("the limit " + limit + " behind a higher one");
      due(BARRED_BY_LIMIT[limit], desk, d -> d.setLimit(limit));
    }
    for (int limit : new int[] {-1, 9, MIN, MAX}) {
      edge("the limit " + limit);
      refusedInEveryState(ARGUMENT, d -> d.setLimit(limit));
      refused(ARGUMENT, () -> limited(0), d -> d.setLimit(limit));
      refused(ARGUMENT, () -> limited(8), d -> d.setLimit(limit));
    }
    limitDecides();
  }

  private static void limitDecides() {
    edge("what hangs on the limit follows it");
    PipersDesk desk = new PipersDesk();
    ornament(desk, 5);
    tune(desk, 0, 4, 4, 5);
    tune(desk, 2, 4, 0);
    desk.setLimit(4);
    due(false, desk, d -> d.fits(0, 4, 4, 0));
    due(0, desk, d -> d.choices(0));
    due(STATE, desk, d -> d.least(0));
    due(0, desk, d -> d.sets());
    desk.setLimit(5);
    due(true, desk, d -> d.fits(0, 4, 4, 0));
    due(1, desk, d -> d.choices(0));
    due(5, desk, d -> d.least(0));
    due(2, desk, d -> d.sets());
    desk.setLimit(4);
    due(0, desk, d -> d.choices(0));
    due(0, desk, d -> d.sets());
  }

  public static void main(String[] args) {
    part(PipersDeskMovementEdges::newObject);
    part(PipersDeskMovementEdges::cost);
    part(PipersDeskMovementEdges::isBarred);
    part(PipersDeskMovementEdges::setLimit);
    end();
  }
}
