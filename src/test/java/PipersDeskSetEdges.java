/** The edges that the document names for sets, promises 20 to 22, and for the number of calls. */
public final class PipersDeskSetEdges extends DeskChecks {
  /** All orders of four tunes, the lower numbers first. */
  private static final int[][] ORDERS = {
    {0, 1, 2, 3}, {0, 1, 3, 2}, {0, 2, 1, 3}, {0, 2, 3, 1}, {0, 3, 1, 2}, {0, 3, 2, 1},
    {1, 0, 2, 3}, {1, 0, 3, 2}, {1, 2, 0, 3}, {1, 2, 3, 0}, {1, 3, 0, 2}, {1, 3, 2, 0},
    {2, 0, 1, 3}, {2, 0, 3, 1}, {2, 1, 0, 3}, {2, 1, 3, 0}, {2, 3, 0, 1}, {2, 3, 1, 0},
    {3, 0, 1, 2}, {3, 0, 2, 1}, {3, 1, 0, 2}, {3, 1, 2, 0}, {3, 2, 0, 1}, {3, 2, 1, 0}
  };

  private static PipersDesk with(PipersDesk desk, int... graces) {
    ornament(desk, graces);
    return desk;
  }

  /** A desk whose tune t has the pitches of the row t, none where the row is empty. */
  private static PipersDesk tunes(int[]... rows) {
    PipersDesk desk = new PipersDesk();
    for (int t = 0; t < rows.length; t++) {
      tune(desk, t, 4, rows[t]);
    }
    return desk;
  }

  /** A desk whose tune numbers[i] has the pitches of the row i. */
  private static PipersDesk numbered(int[] numbers, int[]... rows) {
    PipersDesk desk = new PipersDesk();
    for (int i = 0; i < rows.length; i++) {
      tune(desk, numbers[i], 4, rows[i]);
    }
    return desk;
  }

  private static int[] row(int... pitches) {
    return pitches;
  }

  private static void dueLeast(Object cost, PipersDesk desk) {
    of("20 leastSet");
    due(cost, desk, d -> d.leastSet());
  }

  private static void dueSets(int number, PipersDesk desk) {
    of("22 sets");
    due(number, desk, d -> d.sets());
  }

  private static void dueOrder(PipersDesk desk, int... order) {
    of("21 tuneAt");
    for (int p = 0; p < order.length; p++) {
      int place = p;
      due(order[p], desk, d -> d.tuneAt(place));
    }
    due(INDEX, desk, d -> d.tuneAt(order.length));
    due(INDEX, desk, d -> d.tuneAt(-1));
  }

  private static void dueNoSet(Maker maker) {
    of("20 leastSet");
    refused(STATE, maker, d -> d.leastSet());
    of("21 tuneAt");
    for (int place : new int[] {0, 1, 3, 4, -1, MIN, MAX}) {
      refused(STATE, maker, d -> d.tuneAt(place));
    }
    dueSets(0, maker.make());
  }

  private static void noTunes() {
    edge("no tune has notes");
    dueLeast(0, fresh());
    dueSets(1, fresh());
    dueOrder(fresh());
    for (int place : new int[] {-1, 0, 1, 4, MIN, MAX}) {
      refused(INDEX, DeskChecks::fresh, d -> d.tuneAt(place));
    }
    edge("no tune has notes any more");
    PipersDesk emptied = with(tunes(row(4), row(5)), 7);
    dueSets(0, emptied);
    emptied.removeNote(0);
    emptied.removeNote(1);
    dueSets(1, emptied);
    dueLeast(0, emptied);
    dueOrder(emptied);
  }

  private static void oneTune() {
    for (int t = 0; t < 4; t++) {
      int tune = t;
      edge("the tune " + tune + " alone, with one note");
      PipersDesk desk = new PipersDesk();
      desk.addNote(tune, 8, 1);
      dueLeast(0, desk);
      dueSets(1, desk);
      dueOrder(desk, tune);
      edge("the tune " + tune + " alone, with more notes, costs its least cost");
      desk.addNote(tune, 0, 4);
      desk.addNote(tune, 1, 4);
      dueLeast(5, desk);
      edge("the tune " + tune + " alone, with a wish that it has, and without a choice");
      desk.setWish(tune, 1, true);
      dueLeast(STATE, desk);
      dueSets(0, desk);
      of("21 tuneAt");
      due(STATE, desk, d -> d.tuneAt(0));
      ornament(desk, 7);
      dueLeast(4 + 4 + 3, desk);
      dueSets(1, desk);
      dueOrder(desk, tune);
    }
  }

  private static void twoAndThreeTunes() {
    for (int a = 0; a < 4; a++) {
      for (int b = a + 1; b < 4; b++) {
        edge("the tunes " + a + " and " + b + " alone, of equal costs");
        PipersDesk desk = numbered(new int[] {a, b}, row(0), row(1));
        dueLeast(1, desk);
        dueSets(2, desk);
        dueOrder(desk, a, b);
        edge("the tunes " + a + " and " + b + " alone, the higher number first costs less");
        PipersDesk less = numbered(new int[] {a, b}, row(1, 8), row(0, 2));
        dueLeast(3 + 2 + 1, less);
        dueSets(2, less);
        dueOrder(less, b, a);
        edge("the tunes " + a + " and " + b + " alone, one order of two has a choice");
        PipersDesk low = numbered(new int[] {a, b}, row(5, 0), row(1, 3));
        dueSets(1, low);
        dueLeast(2 + 1 + 3, low);
        dueOrder(low, a, b);
        PipersDesk high = numbered(new int[] {b, a}, row(5, 0), row(1, 3));
        dueSets(1, high);
        dueOrder(high, b, a);
      }
    }
    for (int without = 0; without < 4; without++) {
      edge("all tunes but " + without + ", of equal costs");
      int[] numbers = new int[3];
      PipersDesk desk = new PipersDesk();
      int n = 0;
      for (int t = 0; t < 4; t++) {
        if (t != without) {
          numbers[n++] = t;
          tune(desk, t, 4, 0, 1);
        }
      }
      dueLeast(5, desk);
      dueSets(6, desk);
      dueOrder(desk, numbers);
    }
  }

  private static void allTunes() {
    edge("all four tunes, of equal costs");
    PipersDesk equal = tunes(row(0, 1), row(0, 1), row(0, 1), row(0, 1));
    dueLeast(7, equal);
    dueSets(24, equal);
    dueOrder(equal, 0, 1, 2, 3);
    for (int[] numbers : ORDERS) {
      edge("one order of all 24 costs the least");
      // 0, 1, 5 8 and 7 in this order cost 6, and no other order does.
      PipersDesk one = numbered(numbers, row(0), row(1), row(5, 8), row(7));
      dueLeast(6, one);
      dueSets(24, one);
      dueOrder(one, numbers);
      edge("one order has a choice");
      // Only 4, 3 1, 5 1 and 5 in this order.
      PipersDesk only = numbered(numbers, row(4), row(3, 1), row(5, 1), row(5));
      dueSets(1, only);
      dueLeast(7, only);
      dueOrder(only, numbers);
      edge("two orders cost the least, and differ at the first place");
      // 6 0, 1, 5, 6 2, and the same with the outer two exchanged.
      PipersDesk outer = numbered(numbers, row(6, 0), row(1), row(5), row(6, 2));
      dueLeast(9, outer);
      dueOrder(outer, lower(numbers, new int[] {numbers[3], numbers[1], numbers[2], numbers[0]}));
      edge("two orders cost the least, and differ at the second place");
      // 0, 1 2, 1 3, 4 2, and the same with the first one of the three at their end.
      PipersDesk inner = numbered(numbers, row(0), row(1, 2), row(1, 3), row(4, 2));
      dueLeast(10, inner);
      dueOrder(inner, lower(numbers, new int[] {numbers[0], numbers[2], numbers[3], numbers[1]}));
    }
    edge("all four tunes with 10 notes");
    // But for the 6 orders in which the tune 2 is right behind the tune 3: from 2, of length 1, to 8.
    dueSets(18, full());
    PipersDesk ten = new PipersDesk();
    for (int t = 0; t < 4; t++) {
      tune(ten, t, 1, 0, 1, 0, 1, 0, 1, 0, 1, 0, 1);
    }
    dueLeast(39, ten);
    dueSets(24, ten);
    dueOrder(ten, 0, 1, 2, 3);
  }

  private static int[] lower(int[] one, int[] other) {
    for (int i = 0; i < one.length; i++) {
      if (one[i] != other[i]) {
        return one[i] < other[i] ? one : other;
      }
    }
    return one;
  }

  private static void placesRefused() {
    of("21 tuneAt");
    edge("there is no such place");
    for (int size = 0; size <= 4; size++) {
      int end = size;
      for (int place : new int[] {-1, end, end + 1, MIN, MAX}) {
        refused(INDEX, () -> inARow(end), d -> d.tuneAt(place));
      }
      for (int p = 0; p < end; p++) {
        int place = p;
        due(place, inARow(end), d -> d.tuneAt(place));
      }
    }
    edge("there is no set, ahead of a place that is not there");
    dueNoSet(DeskChecks::hopeless);
    dueNoSet(DeskChecks::apart);
    dueNoSet(() -> tunes(row(3, 3)));
    dueNoSet(() -> tunes(row(0), row(0), row(0), row(0)));
  }

  private static PipersDesk inARow(int size) {
    PipersDesk desk = new PipersDesk();
    for (int t = 0; t < size; t++) {
      tune(desk, t, 4, 0, 1);
    }
    return desk;
  }

  private static void gapsBetweenTunes() {
    edge("between tunes of the same pitches stands an ornament, if one fits");
    dueNoSet(() -> tunes(row(0), row(0)));
    dueNoSet(() -> with(tunes(row(0), row(0)), 0));
    PipersDesk same = with(tunes(row(0), row(0)), 7);
    dueLeast(8, same);
    dueSets(2, same);
    dueOrder(same, 0, 1);
    edge("between tunes stands an ornament where the movement is barred");
    PipersDesk barred = with(tunes(row(4), row(5)), 0);
    dueLeast(5, barred);
    dueSets(2, barred);
    barred.removeNote(1);
    barred.addNote(1, 6, 1);
    dueLeast(6, barred);
    edge("the length of the last note decides whether the ornament fits");
    dueSets(1, barred);
    dueOrder(barred, 0, 1);
    edge("the length of the last note, not those of the notes at its sides");
    dueSets(2, withLastLength(2, 1));
    dueOrder(withLastLength(2, 1), 1, 0);
    dueLeast(1 + 1, withLastLength(2, 1));
    dueSets(1, withLastLength(1, 32));
    edge("between tunes the movement may cost just the limit");
    PipersDesk limit = tunes(row(4), row(5));
    limit.setLimit(4);
    dueSets(0, limit);
    limit.setLimit(5);
    dueSets(2, limit);
    dueLeast(5, limit);
    edge("between tunes there is no wish, and one that was there does not come back");
    PipersDesk wish = tunes(row(0, 1, 5), row(6));
    wishAll(wish, 0);
    wish.removeNote(0);
    wish.setWish(0, 0, false);
    dueLeast(1 + 2, wish);
    dueSets(2, wish);
  }

  /** 0 1 and 1: behind the former an ornament is needed, behind the latter none. */
  private static PipersDesk withLastLength(int last, int others) {
    PipersDesk desk = with(new PipersDesk(), 7);
    desk.addNote(0, 0, others);
    desk.addNote(0, 1, last);
    desk.addNote(1, 1, others);
    return desk;
  }

  private static void gapsWithinTunes() {
    edge("a wish within a tune holds in the set");
    PipersDesk wish = tunes(row(0, 1), row(2));
    wish.setWish(0, 0, true);
    dueLeast(STATE, wish);
    dueSets(0, wish);
    ornament(wish, 7);
    dueLeast(7 + 1, wish);
    wish.setWish(0, 0, false);
    dueLeast(1 + 1, wish);
    edge("a tune without a choice leaves no set, whatever the others have");
    for (int t = 0; t < 4; t++) {
      PipersDesk desk = new PipersDesk();
      for (int o = 0; o < 4; o++) {
        tune(desk, o, 4, 0, o == t ? 0 : 1);
      }
      dueLeast(STATE, desk);
      dueSets(0, desk);
    }
  }

  private static void sameOrnament() {
    edge("the same ornament on both sides of the end of a tune");
    dueNoSet(() -> with(tunes(row(0, 0), row(0)), 7));
    PipersDesk one = with(tunes(row(0, 0), row(0, 1)), 7);
    dueLeast(1 + 1 + 8, one);
    dueSets(1, one);
    dueOrder(one, 1, 0);
    PipersDesk two = with(with(tunes(row(0, 0), row(0)), 7), 7);
    dueSets(2, two);
    dueLeast(16, two);
    edge("the same ornament before and behind a tune of one note");
    dueNoSet(() -> with(tunes(row(0), row(0), row(0)), 7));
    dueSets(6, with(with(tunes(row(0), row(0), row(0)), 7), 7));
    edge("the same ornament with a gap in between");
    PipersDesk between = with(tunes(row(0, 0), row(1, 1)), 7);
    dueLeast(8 + 1 + 6, between);
    dueSets(2, between);
  }

  private static void costsOfSets() {
    edge("sets count whatever they cost, and once each");
    PipersDesk many = with(with(tunes(row(0), row(1)), 7), 8);
    dueSets(2, many);
    dueLeast(1, many);
    edge("the dearest set that there is: ornaments with movements of 7 each within all tunes");
    PipersDesk dearest = new PipersDesk();
    ornament(dearest, 9, 10, 9, 10);
    ornament(dearest, 9, 10, 9, 10);
    for (int t = 0; t < 4; t++) {
      tune(dearest, t, 5, 4, 8, 4, 8, 4, 8, 4, 8, 4, 8);
      wishAll(dearest, t);
    }
    dearest.setLimit(7);
    dueLeast(36 * 35 + 3 * 7, dearest);
    dueSets(24, dearest);
    dueOrder(dearest, 0, 1, 2, 3);
    dearest.setLimit(6);
    dueSets(0, dearest);
    dueLeast(STATE, dearest);
    edge("the set follows the notes");
    PipersDesk notes = numbered(new int[] {0, 2}, row(1, 8), row(0, 2));
    dueOrder(notes, 2, 0);
    notes.addNote(1, 0, 4);
    // But for the two orders in which the tune 1 is right before the tune 2: 0 and 0.
    dueSets(4, notes);
    dueLeast(2 + 2 + 1 + 3, notes);
    dueOrder(notes, 2, 1, 0);
    notes.removeNote(1);
    dueOrder(notes, 2, 0);
  }

  private static void numberOfCalls() {
    of("What it is");
    edge("the last one of 512 calls, of which many change the desk and many are refused");
    PipersDesk desk = furnished();
    // 18 calls have furnished the desk, 61 rounds of 8 and these 6 make 512 of them.
    for (int round = 0; round < 61; round++) {
      due(1, desk, d -> d.addNote(3, 0, 4));
      due(2, desk, d -> d.addNote(3, 1, 4));
      due(ARGUMENT, desk, d -> d.addNote(3, 9, 4));
      due(true, desk, d -> d.sets() > 0);
      due(1, desk, d -> d.removeNote(3));
      due(0, desk, d -> d.removeNote(3));
      due(ELEMENT, desk, d -> d.removeNote(3));
      due(INDEX, desk, d -> d.setWish(3, 0, true));
    }
    due(3, desk, d -> d.grace(0));
    due(4, desk, d -> d.grace(0));
    due(3, desk, d -> d.enter());
    due(true, desk, d -> d.fits(0, 0, 2, 1));
    due(4, desk, d -> d.notes(0));
    due(1, desk, d -> d.notes(2));
  }

  public static void main(String[] args) {
    part(PipersDeskSetEdges::noTunes);
    part(PipersDeskSetEdges::oneTune);
    part(PipersDeskSetEdges::twoAndThreeTunes);
    part(PipersDeskSetEdges::allTunes);
    part(PipersDeskSetEdges::placesRefused);
    part(PipersDeskSetEdges::gapsBetweenTunes);
    part(PipersDeskSetEdges::gapsWithinTunes);
    part(PipersDeskSetEdges::sameOrnament);
    part(PipersDeskSetEdges::costsOfSets);
    part(PipersDeskSetEdges::numberOfCalls);
    end();
  }
}
