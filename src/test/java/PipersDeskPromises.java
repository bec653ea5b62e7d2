/** Each promise of the document by itself: ordinary inputs, its edges, and wrong inputs. */
public final class PipersDeskPromises extends DeskChecks {
  private static final String[] CLOSED = {
    "01234567", "0123456", "012345", "012347", "01237", "012456", "01456", "0456", "1456"
  };

  private static void pairsRefused(String exception, Call low, Call high) {
    refused(exception, DeskChecks::furnished, low);
    refused(exception, DeskChecks::furnished, high);
  }

  private static void newObject() {
    promise("1 A new object");
    PipersDesk desk = new PipersDesk();
    due(0, desk, d -> d.ornaments());
    due(INDEX, desk, d -> d.fits(0, 0, 1, 1));
    due(STATE, desk, d -> d.enter());
    for (int t = 0; t < 4; t++) {
      int tune = t;
      due(0, desk, d -> d.notes(tune));
      due(ELEMENT, desk, d -> d.removeNote(tune));
      due(1, desk, d -> d.choices(tune));
      due(0, desk, d -> d.least(tune));
      due(0, desk, d -> d.mostOrnaments(tune));
      due(0.0f, desk, d -> d.average(tune));
    }
    due(1, desk, d -> d.sets());
    due(0, desk, d -> d.leastSet());
    due(false, desk, d -> d.isBarred(1, 3));
    due(1, desk, d -> d.grace(0));
    // Two desks share nothing.
    PipersDesk other = furnished();
    due(0, desk, d -> d.ornaments());
    due(0, desk, d -> d.notes(0));
    due(3, other, d -> d.ornaments());
  }

  private static int onlyIn(int one, int other) {
    int holes = 0;
    for (int i = 0; i < CLOSED[one].length(); i++) {
      if (CLOSED[other].indexOf(CLOSED[one].charAt(i)) < 0) {
        holes++;
      }
    }
    return holes;
  }

  private static void cost() {
    promise("2 cost");
    PipersDesk desk = new PipersDesk();
    for (int from = 0; from < 9; from++) {
      for (int to = 0; to < 9; to++) {
        int a = from;
        int b = to;
        due(onlyIn(a, b) + onlyIn(b, a), desk, d -> d.cost(a, b));
      }
    }
    due(4, desk, d -> d.cost(0, 8));
    due(5, desk, d -> d.cost(4, 5));
    due(2, desk, d -> d.cost(7, 8));
    due(0, desk, d -> d.cost(8, 8));
    for (int pitch : new int[] {-1, 9, 10, MIN, MAX}) {
      pairsRefused(ARGUMENT, d -> d.cost(pitch, 0), d -> d.cost(8, pitch));
    }
  }

  private static void isBarred() {
    promise("3 isBarred");
    PipersDesk desk = new PipersDesk();
    for (int limit = 0; limit <= 8; limit++) {
      desk = new PipersDesk();
      desk.setLimit(limit);
      for (int from = 0; from < 9; from++) {
        for (int to = from % 2; to < 9; to += 2) {
          int a = from;
          int b = to;
          boolean barred = onlyIn(a, b) > 0 && onlyIn(b, a) > 0 && onlyIn(a, b) + onlyIn(b, a) > limit;
          due(barred, desk, d -> d.isBarred(a, b));
        }
      }
    }
    desk = new PipersDesk();
    due(true, desk, d -> d.isBarred(4, 5));
    due(true, desk, d -> d.isBarred(5, 4));
    due(false, desk, d -> d.isBarred(1, 3));
    due(false, desk, d -> d.isBarred(0, 8));
    due(false, desk, d -> d.isBarred(8, 0));
    desk.setLimit(2);
    due(true, desk, d -> d.isBarred(1, 3));
    due(false, desk, d -> d.isBarred(3, 3));
    for (int pitch : new int[] {-1, 9, 10, MIN, MAX}) {
      pairsRefused(ARGUMENT, d -> d.isBarred(pitch, 0), d -> d.isBarred(8, pitch));
    }
  }

  private static void setLimit() {
    promise("4 setLimit");
    PipersDesk desk = new PipersDesk();
    for (int limit = 8; limit >= 0; limit--) {
      int barred = 0;
      for (int a = 0; a < 9; a++) {
        for (int b = 0; b < 9; b++) {
          if (onlyIn(a, b) > 0 && onlyIn(b, a) > 0 && onlyIn(a, b) + onlyIn(b, a) > limit) {
            barred++;
          }
        }
      }
      int set = limit;
      due(barred, desk, d -> d.setLimit(set));
    }
    due(34, desk, d -> d.setLimit(0));
    due(0, desk, d -> d.setLimit(8));
    due(10, desk, d -> d.setLimit(5));
    due(22, desk, d -> d.setLimit(3));
    due(22, desk, d -> d.setLimit(3));
    // What hangs on the limit follows it: fits, choices and sets.
    ornament(desk, 5);
    tune(desk, 0, 4, 4, 5);
    tune(desk, 1, 4, 0);
    due(0, desk, d -> d.choices(0));
    due(0, desk, d -> d.sets());
    due(false, desk, d -> d.fits(0, 4, 4, 0));
    desk.setLimit(5);
    due(1, desk, d -> d.choices(0));
    due(2, desk, d -> d.sets());
    due(true, desk, d -> d.fits(0, 4, 4, 0));
    for (int limit : new int[] {-1, 9, MIN, MAX}) {
      refused(ARGUMENT, DeskChecks::furnished, d -> d.setLimit(limit));
    }
  }

  private static void grace() {
    promise("5 grace");
    PipersDesk desk = new PipersDesk();
    due(1, desk, d -> d.grace(0));
    due(2, desk, d -> d.grace(8));
    due(3, desk, d -> d.grace(9));
    due(4, desk, d -> d.grace(10));
    due(STATE, desk, d -> d.grace(0));
    due(ARGUMENT, desk, d -> d.grace(11));
    desk.enter();
    due(1, desk, d -> d.grace(10));
    for (int grace : new int[] {-1, 11, MIN, MAX}) {
      refused(ARGUMENT, DeskChecks::furnished, d -> d.grace(grace));
      refused(ARGUMENT, DeskChecks::full, d -> d.grace(grace));
    }
    refused(STATE, DeskChecks::full, d -> d.grace(3));
    // The draft goes on when there is no room for another ornament.
    PipersDesk crowded = new PipersDesk();
    for (int o = 0; o < 8; o++) {
      ornament(crowded, 7);
    }
    due(1, crowded, d -> d.grace(7));
  }

  private static void enter() {
    promise("6 enter");
    PipersDesk desk = new PipersDesk();
    for (int o = 0; o < 8; o++) {
      int number = o;
      desk.grace(o);
      due(number, desk, d -> d.enter());
      if (o < 7) {
        due(STATE, desk, d -> d.enter());
      }
    }
    // The ornaments stay what they are while the draft is used again.
    for (int o = 0; o < 8; o++) {
      int number = o;
      due(false, desk, d -> d.fits(number, number, 4, 8));
    }
    due(STATE, desk, d -> d.enter());
    due(1, desk, d -> d.grace(7));
    due(STATE, desk, d -> d.enter());
    due(2, desk, d -> d.grace(7));
    refused(STATE, DeskChecks::fresh, d -> d.enter());
    refused(STATE, DeskChecks::hopeless, d -> d.enter());
    refused(STATE, DeskChecks::full, d -> d.enter());
  }

  private static void ornaments() {
    promise("7 ornaments");
    PipersDesk desk = new PipersDesk();
    for (int o = 0; o < 8; o++) {
      int number = o;
      due(number, desk, d -> d.ornaments());
      desk.grace(1);
      due(number, desk, d -> d.ornaments());
      desk.enter();
    }
    due(8, desk, d -> d.ornaments());
    desk.grace(1);
    due(STATE, desk, d -> d.enter());
    due(8, desk, d -> d.ornaments());
  }

  private static void fits() {
    promise("8 fits");
    PipersDesk desk = new PipersDesk();
    ornament(desk, 7);
    ornament(desk, 7, 10);
    ornament(desk, 7, 9);
    ornament(desk, 9);
    ornament(desk, 10);
    ornament(desk, 7, 9, 4);
    ornament(desk, 9, 10, 9, 10);
    ornament(desk, 4);
    // A length above the number of grace notes, up to the longest.
    due(false, desk, d -> d.fits(0, 1, 1, 1));
    due(true, desk, d -> d.fits(0, 1, 2, 1));
    due(true, desk, d -> d.fits(0, 1, 32, 1));
    due(false, desk, d -> d.fits(6, 0, 4, 1));
    due(true, desk, d -> d.fits(6, 0, 5, 1));
    // Pitches that follow one another must differ: in front, behind, and within.
    due(false, desk, d -> d.fits(0, 7, 4, 1));
    due(false, desk, d -> d.fits(0, 1, 4, 7));
    due(false, desk, d -> d.fits(6, 0, 5, 0));
    // 9 is the pitch behind, 10 the pitch before.
    due(true, desk, d -> d.fits(1, 0, 4, 1));
    due(false, desk, d -> d.fits(1, 0, 4, 0));
    due(false, desk, d -> d.fits(2, 0, 4, 1));
    due(false, desk, d -> d.fits(3, 1, 4, 2));
    due(false, desk, d -> d.fits(4, 1, 4, 2));
    // A barred movement: in front, behind, and within.
    due(false, desk, d -> d.fits(7, 5, 4, 0));
    due(false, desk, d -> d.fits(7, 0, 4, 5));
    due(false, desk, d -> d.fits(5, 1, 4, 2));
    desk.setLimit(4);
    due(true, desk, d -> d.fits(5, 1, 4, 2));
    due(false, desk, d -> d.fits(5, 1, 3, 2));
    for (int number : new int[] {-1, 3, 8, MIN, MAX}) {
      refused(INDEX, DeskChecks::furnished, d -> d.fits(number, 0, 4, 1));
      refused(INDEX, DeskChecks::furnished, d -> d.fits(number, -1, 0, 9));
    }
    refused(INDEX, DeskChecks::fresh, d -> d.fits(0, 0, 4, 1));
    for (int pitch : new int[] {-1, 9, 10, MIN, MAX}) {
      pairsRefused(ARGUMENT, d -> d.fits(0, pitch, 4, 1), d -> d.fits(2, 1, 4, pitch));
    }
    for (int length : new int[] {0, -1, 33, MIN, MAX}) {
      refused(ARGUMENT, DeskChecks::furnished, d -> d.fits(0, 0, length, 1));
    }
  }

  private static void addNote() {
    promise("9 addNote");
    PipersDesk desk = new PipersDesk();
    for (int t = 0; t < 4; t++) {
      for (int i = 1; i <= 10; i++) {
        int tune = t;
        int notes = i;
        due(notes, desk, d -> d.addNote(tune, (notes + tune) % 9, tune == 3 ? 32 : notes));
      }
    }
    for (int t = 0; t < 4; t++) {
      int tune = t;
      due(STATE, desk, d -> d.addNote(tune, 0, 1));
      due(10, desk, d -> d.notes(tune));
      due((10 + tune) % 9, desk, d -> d.removeNote(tune));
      due(10, desk, d -> d.addNote(tune, 0, 1));
    }
    // A wish does not outlive its gap.
    PipersDesk wishing = new PipersDesk();
    tune(wishing, 1, 4, 0, 1, 2);
    wishing.setWish(1, 0, true);
    wishing.setWish(1, 1, true);
    wishing.removeNote(1);
    wishing.addNote(1, 3, 4);
    due(true, wishing, d -> d.setWish(1, 0, true));
    due(false, wishing, d -> d.setWish(1, 1, false));
    for (int tune : new int[] {-1, 4, MIN, MAX}) {
      refused(ARGUMENT, DeskChecks::furnished, d -> d.addNote(tune, 0, 1));
    }
    for (int pitch : new int[] {-1, 9, 10, MIN, MAX}) {
      refused(ARGUMENT, DeskChecks::furnished, d -> d.addNote(0, pitch, 1));
      refused(ARGUMENT, DeskChecks::full, d -> d.addNote(0, pitch, 1));
    }
    for (int length : new int[] {0, 33, MIN, MAX}) {
      refused(ARGUMENT, DeskChecks::furnished, d -> d.addNote(0, 0, length));
      refused(ARGUMENT, DeskChecks::full, d -> d.addNote(0, 0, length));
    }
    refused(STATE, DeskChecks::full, d -> d.addNote(0, 0, 1));
  }

  private static void removeNote() {
    promise("10 removeNote");
    PipersDesk desk = new PipersDesk();
    tune(desk, 2, 4, 0, 8, 3);
    tune(desk, 3, 4, 5);
    due(3, desk, d -> d.removeNote(2));
    due(2, desk, d -> d.notes(2));
    due(8, desk, d -> d.removeNote(2));
    due(0, desk, d -> d.removeNote(2));
    due(0, desk, d -> d.notes(2));
    due(ELEMENT, desk, d -> d.removeNote(2));
    due(1, desk, d -> d.addNote(2, 7, 1));
    due(7, desk, d -> d.removeNote(2));
    due(5, desk, d -> d.removeNote(3));
    for (int tune : new int[] {-1, 4, MIN, MAX}) {
      refused(ARGUMENT, DeskChecks::furnished, d -> d.removeNote(tune));
    }
    refused(ELEMENT, DeskChecks::furnished, d -> d.removeNote(3));
  }

  private static void setWish() {
    promise("11 setWish");
    PipersDesk desk = new PipersDesk();
    tune(desk, 0, 4, 0, 1, 0, 1, 0, 1, 0, 1, 0, 1);
    tune(desk, 3, 4, 0, 1);
    for (int g = 0; g < 9; g++) {
      int gap = g;
      due(false, desk, d -> d.setWish(0, gap, true));
      due(true, desk, d -> d.setWish(0, gap, true));
      due(true, desk, d -> d.setWish(0, gap, false));
      due(false, desk, d -> d.setWish(0, gap, false));
    }
    due(false, desk, d -> d.setWish(3, 0, true));
    due(false, desk, d -> d.setWish(0, 0, true));
    due(0, desk, d -> d.choices(3));
    desk.setWish(3, 0, false);
    due(1, desk, d -> d.choices(3));
    due(true, desk, d -> d.setWish(0, 0, false));
    for (int tune : new int[] {-1, 4, MIN, MAX}) {
      refused(ARGUMENT, DeskChecks::furnished, d -> d.setWish(tune, 0, true));
      refused(ARGUMENT, DeskChecks::furnished, d -> d.setWish(tune, -1, true));
    }
    for (int gap : new int[] {-1, 3, 9, 10, MIN, MAX}) {
      refused(INDEX, DeskChecks::furnished, d -> d.setWish(0, gap, true));
      refused(INDEX, DeskChecks::furnished, d -> d.setWish(1, gap, true));
    }
    refused(INDEX, DeskChecks::furnished, d -> d.setWish(2, 0, true));
    refused(INDEX, DeskChecks::furnished, d -> d.setWish(3, 0, true));
    refused(INDEX, DeskChecks::full, d -> d.setWish(0, 9, true));
  }

  private static void notes() {
    promise("12 notes");
    PipersDesk desk = furnished();
    due(4, desk, d -> d.notes(0));
    due(2, desk, d -> d.notes(1));
    due(1, desk, d -> d.notes(2));
    due(0, desk, d -> d.notes(3));
    due(10, full(), d -> d.notes(0));
    for (int tune : new int[] {-1, 4, MIN, MAX}) {
      refused(ARGUMENT, DeskChecks::furnished, d -> d.notes(tune));
    }
  }

  private static void time() {
    promise("13 time");
    PipersDesk desk = new PipersDesk();
    ornament(desk, 7);
    ornament(desk, 1, 0, 1, 0);
    desk.addNote(0, 1, 5);
    due(5, desk, d -> d.time(0, 0));
    desk.addNote(0, 1, 6);
    desk.addNote(0, 2, 32);
    // Between 1 and 1 must stand an ornament; the one of four grace notes starts with 1.
    due(4, desk, d -> d.time(0, 0));
    due(6, desk, d -> d.time(0, 1));
    due(32, desk, d -> d.time(0, 2));
    // Four grace notes leave one of a length of 5.
    tune(desk, 1, 5, 2, 2);
    due(1, desk, d -> d.time(1, 0));
    due(5, desk, d -> d.time(1, 1));
    refused(ARGUMENT, DeskChecks::hopeless, d -> d.time(4, -1));
    refused(ARGUMENT, DeskChecks::furnished, d -> d.time(-1, 0));
    refused(ARGUMENT, DeskChecks::furnished, d -> d.time(MAX, 0));
    refused(ARGUMENT, DeskChecks::furnished, d -> d.time(MIN, 0));
    for (int note : new int[] {-1, 4, 10, MIN, MAX}) {
      refused(INDEX, DeskChecks::furnished, d -> d.time(0, note));
      refused(INDEX, DeskChecks::hopeless, d -> d.time(0, note));
    }
    refused(INDEX, DeskChecks::furnished, d -> d.time(3, 0));
    refused(INDEX, DeskChecks::full, d -> d.time(0, 10));
    for (int i = 0; i < 3; i++) {
      int note = i;
      refused(STATE, DeskChecks::hopeless, d -> d.time(0, note));
    }
  }

  private static void fitting() {
    promise("14 fitting");
    PipersDesk desk = new PipersDesk();
    tune(desk, 0, 2, 0, 0, 1);
    desk.addNote(0, 0, 1);
    desk.addNote(0, 1, 1);
    due(0, desk, d -> d.fitting(0, 0));
    ornament(desk, 7);
    due(1, desk, d -> d.fitting(0, 0));
    ornament(desk, 7);
    ornament(desk, 1);
    ornament(desk, 7, 8);
    due(3, desk, d -> d.fitting(0, 0));
    due(2, desk, d -> d.fitting(0, 1));
    due(2, desk, d -> d.fitting(0, 2));
    due(0, desk, d -> d.fitting(0, 3));
    // Wishes do not count, nor that there may be no choice for the tune.
    desk.setWish(0, 1, true);
    desk.setWish(0, 3, true);
    due(2, desk, d -> d.fitting(0, 1));
    due(0, desk, d -> d.choices(0));
    // Between 0 and 1 those of 2, 3, 5, 6 and 7; 0 and 1 repeat a pitch, 4 to 1 is barred.
    due(5, full(), d -> d.fitting(0, 0));
    due(5, full(), d -> d.fitting(0, 8));
    refused(ARGUMENT, DeskChecks::furnished, d -> d.fitting(4, -1));
    refused(ARGUMENT, DeskChecks::furnished, d -> d.fitting(-1, 0));
    refused(ARGUMENT, DeskChecks::furnished, d -> d.fitting(MAX, 0));
    for (int gap : new int[] {-1, 3, 9, MIN, MAX}) {
      refused(INDEX, DeskChecks::furnished, d -> d.fitting(0, gap));
    }
    refused(INDEX, DeskChecks::furnished, d -> d.fitting(2, 0));
    refused(INDEX, DeskChecks::furnished, d -> d.fitting(3, 0));
    refused(INDEX, DeskChecks::full, d -> d.fitting(0, 9));
  }

  private static void choices() {
    promise("15 choices");
    PipersDesk desk = new PipersDesk();
    due(1, desk, d -> d.choices(0));
    tune(desk, 0, 4, 0);
    due(1, desk, d -> d.choices(0));
    tune(desk, 0, 4, 1, 0);
    due(1, desk, d -> d.choices(0));
    ornament(desk, 7);
    // None at both, or the ornament at one of the gaps, but not at both.
    due(3, desk, d -> d.choices(0));
    desk.setWish(0, 0, true);
    due(1, desk, d -> d.choices(0));
    desk.setWish(0, 1, true);
    due(0, desk, d -> d.choices(0));
    ornament(desk, 7);
    due(2, desk, d -> d.choices(0));
    // The same pitch twice, or a barred movement, asks for an ornament.
    tune(desk, 1, 4, 0, 0);
    due(2, desk, d -> d.choices(1));
    tune(desk, 2, 4, 4, 5);
    due(0, desk, d -> d.choices(2));
    desk.setLimit(8);
    due(3, desk, d -> d.choices(2));
    due(mostChoices(), greatest(), d -> d.choices(0));
    for (int tune : new int[] {-1, 4, MIN, MAX}) {
      refused(ARGUMENT, DeskChecks::furnished, d -> d.choices(tune));
    }
  }

  private static int mostChoices() {
    long ending = 8;
    long all = 9;
    for (int gap = 1; gap < 9; gap++) {
      ending = 8 * all - ending;
      all = all + ending;
    }
    return Math.toIntExact(all);
  }

  private static void least() {
    promise("16 least");
    PipersDesk desk = new PipersDesk();
    due(0, desk, d -> d.least(3));
    tune(desk, 3, 4, 0);
    due(0, desk, d -> d.least(3));
    tune(desk, 3, 4, 1, 0);
    due(2, desk, d -> d.least(3));
    ornament(desk, 7);
    due(2, desk, d -> d.least(3));
    desk.setWish(3, 0, true);
    due(4 + 3 + 1, desk, d -> d.least(3));
    // The cheapest ornament at each gap by itself would be the same one twice.
    ornament(desk, 8);
    ornament(desk, 6);
    desk.setWish(3, 1, true);
    due(3 + 2 + 3 + 4, desk, d -> d.least(3));
    tune(desk, 0, 2, 0, 0);
    due(6, desk, d -> d.least(0));
    for (int tune : new int[] {-1, 4, MIN, MAX}) {
      refused(ARGUMENT, DeskChecks::furnished, d -> d.least(tune));
      refused(ARGUMENT, DeskChecks::hopeless, d -> d.least(tune));
    }
    refused(STATE, DeskChecks::hopeless, d -> d.least(0));
  }

  private static void chosen() {
    promise("17 chosen");
    PipersDesk desk = new PipersDesk();
    tune(desk, 0, 4, 0, 2, 0);
    ornament(desk, 7);
    ornament(desk, 1);
    ornament(desk, 1);
    // The ornaments 1 and 2 cost as much as none: none comes first.
    due(-1, desk, d -> d.chosen(0, 0));
    due(-1, desk, d -> d.chosen(0, 1));
    desk.setWish(0, 1, true);
    due(-1, desk, d -> d.chosen(0, 0));
    due(1, desk, d -> d.chosen(0, 1));
    // The first gap decides, with the lower number: 1 and then 2, not 2 and then 1.
    desk.setWish(0, 0, true);
    due(1, desk, d -> d.chosen(0, 0));
    due(2, desk, d -> d.chosen(0, 1));
    desk.setWish(0, 1, false);
    due(1, desk, d -> d.chosen(0, 0));
    due(-1, desk, d -> d.chosen(0, 1));
    refused(ARGUMENT, DeskChecks::hopeless, d -> d.chosen(4, -1));
    refused(ARGUMENT, DeskChecks::furnished, d -> d.chosen(-1, 0));
    refused(ARGUMENT, DeskChecks::furnished, d -> d.chosen(MIN, 0));
    for (int gap : new int[] {-1, 3, 9, MIN, MAX}) {
      refused(INDEX, DeskChecks::furnished, d -> d.chosen(0, gap));
      refused(INDEX, DeskChecks::hopeless, d -> d.chosen(0, gap));
    }
    refused(INDEX, DeskChecks::furnished, d -> d.chosen(2, 0));
    refused(INDEX, DeskChecks::furnished, d -> d.chosen(3, 0));
    refused(INDEX, DeskChecks::full, d -> d.chosen(0, 9));
    refused(STATE, DeskChecks::hopeless, d -> d.chosen(0, 0));
    refused(STATE, DeskChecks::hopeless, d -> d.chosen(0, 1));
  }

  private static void mostOrnaments() {
    promise("18 mostOrnaments");
    PipersDesk desk = new PipersDesk();
    due(0, desk, d -> d.mostOrnaments(0));
    tune(desk, 0, 4, 0, 1, 0, 1);
    due(0, desk, d -> d.mostOrnaments(0));
    ornament(desk, 7);
    // One ornament never stands at two gaps one right behind the other: at the first and third.
    due(2, desk, d -> d.mostOrnaments(0));
    due(-1, desk, d -> d.chosen(0, 0));
    desk.setWish(0, 1, true);
    due(1, desk, d -> d.mostOrnaments(0));
    desk.setWish(0, 1, false);
    ornament(desk, 8);
    due(3, desk, d -> d.mostOrnaments(0));
    tune(desk, 1, 1, 0, 1, 0);
    due(0, desk, d -> d.mostOrnaments(1));
    due(9, greatest(), d -> d.mostOrnaments(0));
    for (int tune : new int[] {-1, 4, MIN, MAX}) {
      refused(ARGUMENT, DeskChecks::furnished, d -> d.mostOrnaments(tune));
      refused(ARGUMENT, DeskChecks::hopeless, d -> d.mostOrnaments(tune));
    }
    refused(STATE, DeskChecks::hopeless, d -> d.mostOrnaments(0));
  }

  private static void average() {
    promise("19 average");
    PipersDesk desk = new PipersDesk();
    due(0.0f, desk, d -> d.average(0));
    tune(desk, 0, 4, 0);
    due(0.0f, desk, d -> d.average(0));
    tune(desk, 0, 4, 1);
    due(1.0f, desk, d -> d.average(0));
    tune(desk, 0, 4, 0, 2);
    due(4.0f / 3.0f, desk, d -> d.average(0));
    tune(desk, 0, 4, 0, 2, 0, 2);
    due(12.0f / 7.0f, desk, d -> d.average(0));
    for (int tune : new int[] {-1, 4, MIN, MAX}) {
      refused(ARGUMENT, DeskChecks::furnished, d -> d.average(tune));
      refused(ARGUMENT, DeskChecks::hopeless, d -> d.average(tune));
    }
    refused(STATE, DeskChecks::hopeless, d -> d.average(0));
  }

  private static void leastSet() {
    promise("20 leastSet");
    PipersDesk desk = new PipersDesk();
    due(0, desk, d -> d.leastSet());
    tune(desk, 1, 4, 2);
    due(0, desk, d -> d.leastSet());
    tune(desk, 2, 4, 0);
    due(2, desk, d -> d.leastSet());
    tune(desk, 3, 4, 1);
    due(2, desk, d -> d.leastSet());
    tune(desk, 0, 4, 2, 0);
    due(6, desk, d -> d.leastSet());
    due(4, withoutRepeats(), d -> d.leastSet());
    due(156, longest(), d -> d.leastSet());
    sameOrnamentAcrossTunes();
    wishesInSets();
    refused(STATE, DeskChecks::hopeless, d -> d.leastSet());
    refused(STATE, DeskChecks::apart, d -> d.leastSet());
  }

  /** 0, 0 2 and 1: of all orders only 0 1 0 2 and 0 2 1 0 cost just 4; the former comes first. */
  private static PipersDesk withoutRepeats() {
    PipersDesk desk = new PipersDesk();
    tune(desk, 1, 4, 0);
    tune(desk, 2, 4, 0, 2);
    tune(desk, 3, 4, 1);
    return desk;
  }

  private static PipersDesk longest() {
    PipersDesk desk = new PipersDesk();
    for (int t = 0; t < 4; t++) {
      tune(desk, t, 32, 8, 0, 8, 0, 8, 0, 8, 0, 8, 0);
    }
    return desk;
  }

  private static void sameOrnamentAcrossTunes() {
    PipersDesk desk = new PipersDesk();
    ornament(desk, 7);
    tune(desk, 0, 4, 0, 0);
    tune(desk, 1, 4, 0);
    due(STATE, desk, d -> d.leastSet());
    due(0, desk, d -> d.sets());
    ornament(desk, 8);
    due(16, desk, d -> d.leastSet());
    due(2, desk, d -> d.sets());
    // With 1 in between an ornament stands at none of the neighbouring gaps.
    PipersDesk other = new PipersDesk();
    ornament(other, 7);
    tune(other, 0, 4, 0, 0);
    tune(other, 1, 4, 1);
    due(9, other, d -> d.leastSet());
  }

  private static void wishesInSets() {
    PipersDesk desk = new PipersDesk();
    ornament(desk, 7);
    tune(desk, 0, 4, 0, 1, 2);
    tune(desk, 1, 4, 2);
    desk.setWish(0, 0, true);
    desk.setWish(0, 1, true);
    due(0, desk, d -> d.sets());
    // The wish at the gap that is gone is none for the gap between the tunes.
    desk.removeNote(0);
    due(2, desk, d -> d.sets());
    // 0 7 1 and then 2; from 1 to 2 no ornament would fit.
    due(7 + 1, desk, d -> d.leastSet());
  }

  private static void tuneAt() {
    promise("21 tuneAt");
    PipersDesk desk = new PipersDesk();
    tune(desk, 0, 4, 2);
    tune(desk, 1, 4, 0);
    due(0, desk, d -> d.tuneAt(0));
    due(1, desk, d -> d.tuneAt(1));
    due(INDEX, desk, d -> d.tuneAt(2));
    // 2 1 0 costs as much as 0 1 2, and less than 2 0 1.
    tune(desk, 2, 4, 1);
    due(0, desk, d -> d.tuneAt(0));
    due(2, desk, d -> d.tuneAt(1));
    due(1, desk, d -> d.tuneAt(2));
    due(INDEX, desk, d -> d.tuneAt(3));
    desk.removeNote(0);
    due(1, desk, d -> d.tuneAt(0));
    due(2, desk, d -> d.tuneAt(1));
    due(1, withoutRepeats(), d -> d.tuneAt(0));
    due(3, withoutRepeats(), d -> d.tuneAt(1));
    due(2, withoutRepeats(), d -> d.tuneAt(2));
    for (int place = 0; place < 4; place++) {
      int at = place;
      due(at, longest(), d -> d.tuneAt(at));
      refused(STATE, DeskChecks::apart, d -> d.tuneAt(at));
    }
    lengthDecidesOrder();
    refused(INDEX, DeskChecks::fresh, d -> d.tuneAt(0));
    for (int place : new int[] {-1, 4, MIN, MAX}) {
      refused(INDEX, PipersDeskPromises::longest, d -> d.tuneAt(place));
      refused(STATE, DeskChecks::hopeless, d -> d.tuneAt(place));
    }
  }

  private static void lengthDecidesOrder() {
    PipersDesk desk = new PipersDesk();
    ornament(desk, 7);
    desk.addNote(0, 0, 1);
    desk.addNote(3, 0, 2);
    due(3, desk, d -> d.tuneAt(0));
    due(0, desk, d -> d.tuneAt(1));
    due(1, desk, d -> d.sets());
    due(8, desk, d -> d.leastSet());
  }

  private static void sets() {
    promise("22 sets");
    PipersDesk desk = new PipersDesk();
    due(1, desk, d -> d.sets());
    tune(desk, 3, 4, 0);
    due(1, desk, d -> d.sets());
    tune(desk, 1, 4, 1);
    due(2, desk, d -> d.sets());
    tune(desk, 2, 4, 2);
    due(6, desk, d -> d.sets());
    tune(desk, 0, 4, 7);
    // 7 and 2 may not be neighbours: 24 orders less the 12 in which they are.
    due(12, desk, d -> d.sets());
    desk.setLimit(8);
    due(24, desk, d -> d.sets());
    due(24, longest(), d -> d.sets());
    due(0, hopeless(), d -> d.sets());
    due(0, apart(), d -> d.sets());
    // A third tune in between parts the two: it must stand in the middle.
    PipersDesk parted = apart();
    tune(parted, 1, 4, 0);
    due(2, parted, d -> d.sets());
    due(5, parted, d -> d.leastSet());
    due(1, parted, d -> d.tuneAt(1));
    parted.removeNote(0);
    parted.removeNote(1);
    parted.removeNote(2);
    due(1, parted, d -> d.sets());
  }

  public static void main(String[] args) {
    part(PipersDeskPromises::newObject);
    part(PipersDeskPromises::cost);
    part(PipersDeskPromises::isBarred);
    part(PipersDeskPromises::setLimit);
    part(PipersDeskPromises::grace);
    part(PipersDeskPromises::enter);
    part(PipersDeskPromises::ornaments);
    part(PipersDeskPromises::fits);
    part(PipersDeskPromises::addNote);
    part(PipersDeskPromises::removeNote);
    part(PipersDeskPromises::setWish);
    part(PipersDeskPromises::notes);
    part(PipersDeskPromises::time);
    part(PipersDeskPromises::fitting);
    part(PipersDeskPromises::choices);
    part(PipersDeskPromises::least);
    part(PipersDeskPromises::chosen);
    part(PipersDeskPromises::mostOrnaments);
    part(PipersDeskPromises::average);
    part(PipersDeskPromises::leastSet);
    part(PipersDeskPromises::tuneAt);
    part(PipersDeskPromises::sets);
    end();
  }
}
