/** The edges that the document names for ornaments: promises 5 to 8. */
public final class PipersDeskOrnamentEdges extends DeskChecks {
  /** A desk with so many ornaments, all of the grace note 7. */
  private static PipersDesk withOrnaments(int number) {
    PipersDesk desk = new PipersDesk();
    for (int o = 0; o < number; o++) {
      ornament(desk, 7);
    }
    return desk;
  }

  private static PipersDesk withDraft(int... graces) {
    PipersDesk desk = new PipersDesk();
    graces(desk, graces);
    return desk;
  }

  private static PipersDesk withOrnament(int... graces) {
    PipersDesk desk = new PipersDesk();
    ornament(desk, graces);
    return desk;
  }

  private static PipersDesk withOrnamentAtLimit(int limit, int... graces) {
    PipersDesk desk = withOrnament(graces);
    desk.setLimit(limit);
    return desk;
  }

  private static void graceArguments() {
    promise("5 grace");
    for (int g = 0; g <= 10; g++) {
      int grace = g;
      edge("the grace note " + grace);
      due(1, fresh(), d -> d.grace(grace));
      due(4, withDraft(7, 7, 7), d -> d.grace(grace));
    }
    for (int grace : new int[] {-1, 11, MIN, MAX}) {
      edge("the grace note " + grace);
      refusedInEveryState(ARGUMENT, d -> d.grace(grace));
    }
    edge("a grace note that is out of range, ahead of a draft that is full");
    refused(ARGUMENT, () -> withDraft(7, 7, 7, 7), d -> d.grace(-1));
    refused(ARGUMENT, () -> withDraft(7, 7, 7, 7), d -> d.grace(11));
  }

  private static void graceFullAndEmpty() {
    edge("a draft that is empty, and one with 1, 2, 3 and 4 grace notes");
    PipersDesk desk = new PipersDesk();
    due(1, desk, d -> d.grace(0));
    due(2, desk, d -> d.grace(8));
    due(3, desk, d -> d.grace(9));
    due(4, desk, d -> d.grace(10));
    due(STATE, desk, d -> d.grace(0));
    due(STATE, desk, d -> d.grace(10));
    for (int g = 0; g <= 10; g++) {
      int grace = g;
      edge("the fifth grace note " + grace);
      refused(STATE, () -> withDraft(7, 8, 7, 8), d -> d.grace(grace));
      refused(STATE, DeskChecks::full, d -> d.grace(grace));
    }
    edge("the draft is empty again when it has been entered");
    desk.enter();
    due(1, desk, d -> d.grace(0));
    edge("8 ornaments do not hinder a draft");
    PipersDesk crowded = withOrnaments(8);
    for (int i = 1; i <= 4; i++) {
      int size = i;
      due(size, crowded, d -> d.grace(7));
    }
    due(STATE, crowded, d -> d.grace(7));
    edge("a grace note that is refused is not in the ornament");
    PipersDesk tried = withDraft(7);
    due(ARGUMENT, tried, d -> d.grace(11));
    due(ARGUMENT, tried, d -> d.grace(-1));
    due(0, tried, d -> d.enter());
    due(true, tried, d -> d.fits(0, 0, 2, 0));
    edge("a fifth grace note takes the place of none of the four");
    PipersDesk fifth = withDraft(1, 0, 1, 2);
    due(STATE, fifth, d -> d.grace(0));
    fifth.enter();
    due(true, fifth, d -> d.fits(0, 0, 5, 0));
    due(false, fifth, d -> d.fits(0, 0, 5, 2));
    due(false, fifth, d -> d.fits(0, 1, 5, 0));
  }

  private static void graceMeaning() {
    for (int p = 0; p <= 8; p++) {
      int pitch = p;
      edge("the grace note " + pitch + " is this pitch");
      PipersDesk desk = withOrnamentAtLimit(8, pitch);
      due(false, desk, d -> d.fits(0, pitch, 2, (pitch + 1) % 9));
      due(false, desk, d -> d.fits(0, (pitch + 1) % 9, 2, pitch));
      due(true, desk, d -> d.fits(0, (pitch + 1) % 9, 2, (pitch + 2) % 9));
    }
    edge("the grace note 9 is the note behind");
    PipersDesk behind = withOrnament(9, 0);
    due(true, behind, d -> d.fits(0, 2, 3, 1));
    due(true, behind, d -> d.fits(0, 0, 3, 1));
    due(false, behind, d -> d.fits(0, 1, 3, 1));
    due(false, behind, d -> d.fits(0, 1, 3, 0));
    edge("the grace note 10 is the note before");
    PipersDesk before = withOrnament(0, 10);
    due(true, before, d -> d.fits(0, 1, 3, 2));
    due(true, before, d -> d.fits(0, 1, 3, 0));
    due(false, before, d -> d.fits(0, 1, 3, 1));
    due(false, before, d -> d.fits(0, 0, 3, 1));
  }

  private static void enterFullAndEmpty() {
    promise("6 enter");
    edge("a draft of 1, 2, 3 and 4 grace notes");
    PipersDesk sizes = new PipersDesk();
    int[] graces = {7, 8, 7, 8};
    for (int i = 1; i <= 4; i++) {
      int size = i;
      for (int g = 0; g < size; g++) {
        sizes.grace(graces[g]);
      }
      due(size - 1, sizes, d -> d.enter());
      due(false, sizes, d -> d.fits(size - 1, 0, size, 0));
      due(true, sizes, d -> d.fits(size - 1, 0, size + 1, 0));
    }
    for (int o = 0; o < 8; o++) {
      int number = o;
      edge("an empty draft with " + number + " ornaments");
      refused(STATE, () -> withOrnaments(number), d -> d.enter());
      edge("a draft with " + number + " ornaments");
      PipersDesk desk = withOrnaments(number);
      desk.grace(7);
      due(number, desk, d -> d.enter());
      due(number + 1, desk, d -> d.ornaments());
      due(STATE, desk, d -> d.enter());
    }
    edge("an empty draft with 8 ornaments");
    refused(STATE, () -> withOrnaments(8), d -> d.enter());
    edge("a draft with 8 ornaments");
    refused(STATE, DeskChecks::full, d -> d.enter());
  }

  private static void enterKeepsAndEmpties() {
    edge("the draft that finds no room stays as it is");
    PipersDesk crowded = withOrnaments(8);
    crowded.grace(7);
    due(STATE, crowded, d -> d.enter());
    due(2, crowded, d -> d.grace(7));
    due(STATE, crowded, d -> d.enter());
    due(3, crowded, d -> d.grace(7));
    due(8, crowded, d -> d.ornaments());
    edge("a draft begins anew, with nothing of the one before");
    PipersDesk desk = withOrnament(7, 1, 7, 1);
    desk.grace(8);
    due(1, desk, d -> d.enter());
    due(true, desk, d -> d.fits(1, 0, 2, 0));
    edge("an ornament stays as it is when more are entered");
    ornament(desk, 0, 0, 0, 0);
    due(true, desk, d -> d.fits(0, 0, 5, 0));
    due(false, desk, d -> d.fits(0, 7, 5, 0));
    due(true, desk, d -> d.fits(1, 0, 2, 0));
    edge("an empty draft that was refused does not become an ornament");
    PipersDesk empty = new PipersDesk();
    due(STATE, empty, d -> d.enter());
    due(0, empty, d -> d.ornaments());
    empty.grace(7);
    due(0, empty, d -> d.enter());
    due(STATE, empty, d -> d.enter());
    due(1, empty, d -> d.ornaments());
  }

  private static void ornaments() {
    promise("7 ornaments");
    for (int o = 0; o <= 8; o++) {
      int number = o;
      edge("with " + number + " ornaments");
      due(number, withOrnaments(number), d -> d.ornaments());
      edge("a draft is none, with " + number + " ornaments");
      PipersDesk desk = withOrnaments(number);
      graces(desk, 7, 8, 7, 8);
      due(number, desk, d -> d.ornaments());
    }
    edge("a ninth one is refused, and does not count");
    PipersDesk desk = withOrnaments(8);
    desk.grace(7);
    due(STATE, desk, d -> d.enter());
    due(8, desk, d -> d.ornaments());
  }

  private static void fitsNumbers() {
    promise("8 fits");
    for (int o = 0; o <= 8; o++) {
      int size = o;
      edge("the numbers with " + size + " ornaments");
      for (int n = 0; n < size; n++) {
        int number = n;
        due(true, withOrnaments(size), d -> d.fits(number, 0, 4, 1));
      }
      for (int number : new int[] {-1, size, size + 1, 8, MIN, MAX}) {
        refused(INDEX, () -> withOrnaments(size), d -> d.fits(number, 0, 4, 1));
      }
    }
    edge("a draft has no number");
    refused(INDEX, () -> withDraft(7), d -> d.fits(0, 0, 4, 1));
    refused(INDEX, DeskChecks::furnished, d -> d.fits(3, 0, 4, 1));
    edge("no such ornament, ahead of arguments that are out of range");
    for (int number : new int[] {-1, 8, MIN, MAX}) {
      refusedInEveryState(INDEX, d -> d.fits(number, -1, 4, 1));
      refusedInEveryState(INDEX, d -> d.fits(number, 0, 0, 1));
      refusedInEveryState(INDEX, d -> d.fits(number, 0, 4, 9));
      refusedInEveryState(INDEX, d -> d.fits(number, 9, 33, -1));
    }
    refused(INDEX, DeskChecks::fresh, d -> d.fits(0, -1, 0, -1));
  }

  private static void fitsArguments() {
    PipersDesk desk = withOrnamentAtLimit(8, 5);
    for (int p = 0; p <= 8; p++) {
      int pitch = p;
      edge("the pitch " + pitch + " before and behind");
      due(pitch != 5, desk, d -> d.fits(0, pitch, 2, 0));
      due(pitch != 5, desk, d -> d.fits(0, 8, 2, pitch));
    }
    for (int pitch : new int[] {-1, 9, 10, MIN, MAX}) {
      edge("the pitch " + pitch + " before");
      refused(ARGUMENT, DeskChecks::furnished, d -> d.fits(0, pitch, 4, 1));
      refused(ARGUMENT, DeskChecks::full, d -> d.fits(7, pitch, 4, 1));
      edge("the pitch " + pitch + " behind");
      refused(ARGUMENT, DeskChecks::furnished, d -> d.fits(2, 1, 4, pitch));
      refused(ARGUMENT, DeskChecks::full, d -> d.fits(0, 1, 4, pitch));
    }
    for (int l = 1; l <= 32; l++) {
      int length = l;
      edge("the length " + length);
      due(length > 1, desk, d -> d.fits(0, 0, length, 1));
    }
    for (int length : new int[] {0, -1, 33, MIN, MAX}) {
      edge("the length " + length);
      refused(ARGUMENT, DeskChecks::furnished, d -> d.fits(0, 0, length, 1));
      refused(ARGUMENT, DeskChecks::full, d -> d.fits(7, 0, length, 0));
    }
    edge("all three out of range");
    refused(ARGUMENT, DeskChecks::furnished, d -> d.fits(2, -1, 0, 9));
    refused(ARGUMENT, DeskChecks::full, d -> d.fits(7, MIN, MAX, MIN));
  }

  private static void fitsLengths() {
    int[][] sizes = {{7}, {7, 8}, {7, 8, 7}, {7, 8, 7, 8}};
    for (int[] graces : sizes) {
      int size = graces.length;
      edge(size + " grace notes in a length of " + size + ", of 1 and of one more");
      due(false, withOrnament(graces), d -> d.fits(0, 0, size, 0));
      due(false, withOrnament(graces), d -> d.fits(0, 0, 1, 0));
      due(true, withOrnament(graces), d -> d.fits(0, 0, size + 1, 0));
      due(true, withOrnament(graces), d -> d.fits(0, 0, 32, 0));
    }
  }

  private static void fitsOfSamePitches() {
    edge("the note before and the first grace note are the same");
    due(false, withOrnament(7), d -> d.fits(0, 7, 4, 0));
    due(false, withOrnament(10), d -> d.fits(0, 7, 4, 0));
    due(false, withOrnament(9), d -> d.fits(0, 7, 4, 7));
    edge("the last grace note and the note behind are the same");
    due(false, withOrnament(7), d -> d.fits(0, 0, 4, 7));
    due(false, withOrnament(9), d -> d.fits(0, 0, 4, 7));
    due(false, withOrnament(0, 10), d -> d.fits(0, 7, 4, 7));
    edge("two grace notes one behind the other are the same");
    due(false, withOrnament(7, 7), d -> d.fits(0, 0, 4, 1));
    due(false, withOrnament(7, 0, 0, 7), d -> d.fits(0, 1, 32, 1));
    due(false, withOrnament(0, 7, 10, 9), d -> d.fits(0, 1, 32, 1));
    due(false, withOrnament(9, 0), d -> d.fits(0, 1, 4, 0));
    edge("the same pitch, but not one behind the other");
    due(true, withOrnament(7, 0, 7, 0), d -> d.fits(0, 0, 5, 7));
    due(true, withOrnament(9, 10), d -> d.fits(0, 0, 4, 7));
    due(true, withOrnament(9, 10, 9, 10), d -> d.fits(0, 0, 5, 7));
    due(true, withOrnament(7), d -> d.fits(0, 0, 4, 0));
  }

  private static void fitsOfBarredMovements() {
    edge("the movement from the note before is barred, or costs just the limit");
    due(false, withOrnamentAtLimit(4, 5), d -> d.fits(0, 4, 4, 0));
    due(true, withOrnamentAtLimit(5, 5), d -> d.fits(0, 4, 4, 0));
    edge("the movement to the note behind is barred, or costs just the limit");
    due(false, withOrnamentAtLimit(4, 5), d -> d.fits(0, 0, 4, 4));
    due(true, withOrnamentAtLimit(5, 5), d -> d.fits(0, 0, 4, 4));
    edge("a movement between two grace notes is barred, or costs just the limit");
    for (int[] graces : new int[][] {{4, 5}, {4, 5, 0}, {0, 4, 5}, {4, 5, 0, 1}, {1, 4, 5, 0}, {1, 0, 4, 5}}) {
      int before = graces[0] == 0 ? 1 : 0;
      int behind = graces[graces.length - 1] == 1 || graces[graces.length - 1] == 5 ? 0 : 1;
      due(false, withOrnamentAtLimit(4, graces), d -> d.fits(0, before, 5, behind));
      due(true, withOrnamentAtLimit(5, graces), d -> d.fits(0, before, 5, behind));
    }
    edge("that the notes' own movement is barred does not matter");
    due(true, withOrnamentAtLimit(0, 0), d -> d.fits(0, 4, 2, 8));
    edge("the limit 3, as it is at first");
    due(true, withOrnament(1), d -> d.fits(0, 3, 2, 0));
    due(false, withOrnament(1), d -> d.fits(0, 4, 2, 0));
    edge("an answer changes nothing");
    PipersDesk desk = furnished();
    due(true, desk, d -> d.fits(1, 0, 3, 1));
    due(true, desk, d -> d.fits(1, 0, 3, 1));
    due(3, desk, d -> d.grace(0));
  }

  public static void main(String[] args) {
    part(PipersDeskOrnamentEdges::graceArguments);
    part(PipersDeskOrnamentEdges::graceFullAndEmpty);
    part(PipersDeskOrnamentEdges::graceMeaning);
    part(PipersDeskOrnamentEdges::enterFullAndEmpty);
    part(PipersDeskOrnamentEdges::enterKeepsAndEmpties);
    part(PipersDeskOrnamentEdges::ornaments);
    part(PipersDeskOrnamentEdges::fitsNumbers);
    part(PipersDeskOrnamentEdges::fitsArguments);
    part(PipersDeskOrnamentEdges::fitsLengths);
    part(PipersDeskOrnamentEdges::fitsOfSamePitches);
    part(PipersDeskOrnamentEdges::fitsOfBarredMovements);
    end();
  }
}
