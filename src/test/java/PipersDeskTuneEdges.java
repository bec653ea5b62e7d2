import java.util.Arrays;

/** The edges that the document names for tunes: promises 9 to 13. */
public final class PipersDeskTuneEdges extends DeskChecks {
  /** A desk whose tune t has so many notes, of the pitches 0, 1, 0, 1 and so on. */
  private static PipersDesk withNotes(int t, int notes) {
    PipersDesk desk = new PipersDesk();
    for (int i = 0; i < notes; i++) {
      desk.addNote(t, i % 2, 4);
    }
    return desk;
  }

  private static PipersDesk withTune(int length, int... pitches) {
    PipersDesk desk = new PipersDesk();
    tune(desk, 0, length, pitches);
    return desk;
  }

  private static void addNoteArguments() {
    promise("9 addNote");
    edge("the tune is out of range");
    tuneRefused((d, t) -> d.addNote(t, 0, 1));
    tuneRefused((d, t) -> d.addNote(t, 9, 33));
    for (int t = 0; t < 4; t++) {
      int tune = t;
      edge("the tune " + tune + " takes the note, and no other one does");
      PipersDesk desk = new PipersDesk();
      due(1, desk, d -> d.addNote(tune, 8, 1));
      for (int o = 0; o < 4; o++) {
        int other = o;
        due(other == tune ? 1 : 0, desk, d -> d.notes(other));
      }
    }
    for (int p = 0; p <= 8; p++) {
      int pitch = p;
      edge("the pitch " + pitch);
      PipersDesk desk = new PipersDesk();
      due(1, desk, d -> d.addNote(3, pitch, 4));
      due(pitch, desk, d -> d.removeNote(3));
    }
    for (int pitch : new int[] {-1, 9, 10, MIN, MAX}) {
      edge("the pitch " + pitch);
      refusedInEveryState(ARGUMENT, d -> d.addNote(0, pitch, 4));
      refusedInEveryState(ARGUMENT, d -> d.addNote(3, pitch, 4));
    }
    for (int l = 1; l <= 32; l++) {
      int length = l;
      edge("the length " + length);
      PipersDesk desk = new PipersDesk();
      due(1, desk, d -> d.addNote(0, 0, length));
      due(length, desk, d -> d.time(0, 0));
    }
    for (int length : new int[] {0, -1, 33, MIN, MAX}) {
      edge("the length " + length);
      refusedInEveryState(ARGUMENT, d -> d.addNote(0, 0, length));
      refusedInEveryState(ARGUMENT, d -> d.addNote(3, 8, length));
    }
  }

  private static void addNoteFullAndEmpty() {
    for (int t = 0; t < 4; t++) {
      int tune = t;
      PipersDesk desk = new PipersDesk();
      edge("the tune " + tune + " with no note, and on to 10");
      for (int n = 1; n <= 10; n++) {
        int notes = n;
        due(notes, desk, d -> d.addNote(tune, notes % 9, notes));
      }
      edge("the tune " + tune + " with 10 notes takes no more, the others do");
      for (int o = 0; o < 4; o++) {
        int other = o;
        due(other == tune ? STATE : 1, desk, d -> d.addNote(other, 0, 1));
      }
      refused(STATE, () -> withNotes(tune, 10), d -> d.addNote(tune, 2, 32));
      refused(STATE, DeskChecks::full, d -> d.addNote(tune, 0, 1));
      edge("an argument out of range, ahead of the tune " + tune + " that is full");
      refused(ARGUMENT, DeskChecks::full, d -> d.addNote(tune, -1, 1));
      refused(ARGUMENT, DeskChecks::full, d -> d.addNote(tune, 9, 1));
      refused(ARGUMENT, DeskChecks::full, d -> d.addNote(tune, 0, 0));
      refused(ARGUMENT, DeskChecks::full, d -> d.addNote(tune, 0, 33));
      edge("there is room again in the tune " + tune + " behind a removal, for one note");
      due(10 % 9, desk, d -> d.removeNote(tune));
      due(10, desk, d -> d.addNote(tune, 8, 1));
      due(STATE, desk, d -> d.addNote(tune, 7, 1));
      due(8, desk, d -> d.removeNote(tune));
    }
  }

  private static void addNoteWithoutWish() {
    for (int n = 2; n <= 10; n++) {
      int gap = n - 2;
      edge("there is no wish at the gap before the note number " + (n - 1));
      PipersDesk desk = withNotes(1, n);
      due(false, desk, d -> d.setWish(1, gap, false));
      edge("nor when there was one before a note that stood there");
      desk.setWish(1, gap, true);
      desk.removeNote(1);
      desk.addNote(1, 5, 4);
      due(false, desk, d -> d.setWish(1, gap, true));
      edge("nor when all notes were removed since");
      while (desk.notes(1) > 0) {
        desk.removeNote(1);
      }
      tune(desk, 1, 4, 0, 1, 0, 1, 0, 1, 0, 1, 0, 1);
      due(false, desk, d -> d.setWish(1, gap, false));
    }
    edge("the wishes at the other gaps stay");
    PipersDesk kept = withNotes(2, 9);
    wishAll(kept, 2);
    kept.addNote(2, 1, 4);
    for (int g = 0; g <= 8; g++) {
      int gap = g;
      due(gap < 8, kept, d -> d.setWish(2, gap, false));
    }
    edge("a wish that was refused where there was no gap is none when there is one");
    for (int n = 0; n < 10; n++) {
      int gap = n;
      PipersDesk early = withNotes(0, n);
      due(INDEX, early, d -> d.setWish(0, gap, true));
      due(INDEX, early, d -> d.setWish(0, gap - 1, true));
      tune(early, 0, 4, 7);
      if (n > 0) {
        due(false, early, d -> d.setWish(0, gap - 1, false));
      }
    }
    edge("the choices know that the wish is gone");
    PipersDesk desk = withNotes(0, 2);
    desk.setWish(0, 0, true);
    due(0, desk, d -> d.choices(0));
    desk.removeNote(0);
    due(1, desk, d -> d.choices(0));
    desk.addNote(0, 1, 4);
    due(1, desk, d -> d.choices(0));
    due(1, desk, d -> d.least(0));
  }

  private static void removeNote() {
    promise("10 removeNote");
    edge("the tune is out of range");
    tuneRefused((d, t) -> d.removeNote(t));
    for (int t = 0; t < 4; t++) {
      int tune = t;
      edge("from 10 notes of the tune " + tune + " down to none");
      PipersDesk desk = new PipersDesk();
      tune(desk, tune, 4, 0, 1, 2, 3, 4, 5, 6, 7, 8, 0);
      due(0, desk, d -> d.removeNote(tune));
      for (int n = 8; n >= 0; n--) {
        int notes = n;
        due(notes, desk, d -> d.removeNote(tune));
        due(notes, desk, d -> d.notes(tune));
      }
      due(ELEMENT, desk, d -> d.removeNote(tune));
      due(ELEMENT, desk, d -> d.removeNote(tune));
      due(0, desk, d -> d.notes(tune));
      edge("the tune " + tune + " is empty, the others are not");
      refused(ELEMENT, () -> withNotes((tune + 1) % 4, 3), d -> d.removeNote(tune));
      refused(ELEMENT, DeskChecks::fresh, d -> d.removeNote(tune));
      edge("a note may follow a refused removal from the tune " + tune);
      due(1, desk, d -> d.addNote(tune, 6, 3));
      due(3, desk, d -> d.time(tune, 0));
      due(6, desk, d -> d.removeNote(tune));
      due(ELEMENT, desk, d -> d.removeNote(tune));
    }
    refused(ELEMENT, DeskChecks::furnished, d -> d.removeNote(3));
    edge("the wishes at the gaps that are left stay");
    PipersDesk desk = withNotes(0, 10);
    wishAll(desk, 0);
    desk.removeNote(0);
    for (int g = 0; g <= 7; g++) {
      int gap = g;
      due(true, desk, d -> d.setWish(0, gap, true));
    }
    due(INDEX, desk, d -> d.setWish(0, 8, true));
    edge("the same pitch twice is removed once");
    PipersDesk twice = withTune(4, 3, 3);
    due(3, twice, d -> d.removeNote(0));
    due(1, twice, d -> d.notes(0));
  }

  private static void setWish() {
    promise("11 setWish");
    edge("the tune is out of range");
    tuneRefused((d, t) -> d.setWish(t, 0, true));
    tuneRefused((d, t) -> d.setWish(t, 0, false));
    edge("the tune is out of range, ahead of a gap that is not there");
    tuneRefused((d, t) -> d.setWish(t, -1, true));
    tuneRefused((d, t) -> d.setWish(t, MAX, true));
    edge("there is no such gap");
    numberRefused(true, (d, t, gap) -> d.setWish(t, gap, true));
    numberRefused(true, (d, t, gap) -> d.setWish(t, gap, false));
    for (int n = 0; n <= 1; n++) {
      int notes = n;
      edge("a tune with " + notes + " notes has no gap");
      refused(INDEX, () -> withNotes(3, notes), d -> d.setWish(3, 0, true));
      refused(INDEX, () -> withNotes(3, notes), d -> d.setWish(3, -1, true));
    }
    for (int n = 2; n <= 10; n++) {
      int last = n - 2;
      edge("the first and the last gap of " + n + " notes, and the next one on either side");
      PipersDesk desk = withNotes(3, n);
      due(false, desk, d -> d.setWish(3, 0, true));
      due(last == 0, desk, d -> d.setWish(3, last, true));
      due(INDEX, desk, d -> d.setWish(3, last + 1, true));
      due(INDEX, desk, d -> d.setWish(3, -1, true));
      due(true, desk, d -> d.setWish(3, last, false));
      due(last != 0, desk, d -> d.setWish(3, 0, false));
    }
  }

  private static void setWishBefore() {
    edge("a wish that is set or taken back twice");
    PipersDesk desk = withNotes(0, 2);
    due(false, desk, d -> d.setWish(0, 0, false));
    due(false, desk, d -> d.setWish(0, 0, true));
    due(true, desk, d -> d.setWish(0, 0, true));
    due(true, desk, d -> d.setWish(0, 0, false));
    due(false, desk, d -> d.setWish(0, 0, false));
    edge("a wish is at its gap of its tune alone");
    for (int t = 0; t < 4; t++) {
      for (int g = 0; g <= 8; g++) {
        PipersDesk one = full();
        one.setWish(0, 8, false);
        one.setWish(2, 0, false);
        one.setWish(t, g, true);
        boolean[] wishes = new boolean[36];
        for (int i = 0; i < 36; i++) {
          wishes[i] = one.setWish(i / 9, i % 9, false);
        }
        boolean[] want = new boolean[36];
        want[t * 9 + g] = true;
        same(Arrays.toString(wishes), Arrays.toString(want));
      }
    }
    edge("a wish asks for an ornament, none asks for none");
    PipersDesk asked = withNotes(0, 2);
    due(1, asked, d -> d.choices(0));
    asked.setWish(0, 0, true);
    due(0, asked, d -> d.choices(0));
    ornament(asked, 7);
    due(1, asked, d -> d.choices(0));
    asked.setWish(0, 0, false);
    due(2, asked, d -> d.choices(0));
  }

  private static void notes() {
    promise("12 notes");
    edge("the tune is out of range");
    tuneRefused((d, t) -> d.notes(t));
    for (int t = 0; t < 4; t++) {
      for (int n = 0; n <= 10; n++) {
        int tune = t;
        int notes = n;
        edge("the tune " + tune + " with " + notes + " notes");
        due(notes, withNotes(tune, notes), d -> d.notes(tune));
        due(0, withNotes(tune, notes), d -> d.notes((tune + 1) % 4));
      }
      int tune = t;
      edge("an eleventh note in the tune " + tune + " does not count");
      PipersDesk desk = withNotes(tune, 10);
      due(STATE, desk, d -> d.addNote(tune, 0, 1));
      due(10, desk, d -> d.notes(tune));
      edge("a note that is out of range does not count in the tune " + tune);
      PipersDesk wrong = withNotes(tune, 3);
      due(ARGUMENT, wrong, d -> d.addNote(tune, 9, 1));
      due(ARGUMENT, wrong, d -> d.addNote(tune, 0, 33));
      due(3, wrong, d -> d.notes(tune));
    }
  }

  private static void timeRefused() {
    promise("13 time");
    edge("the tune is out of range");
    tuneRefused((d, t) -> d.time(t, 0));
    edge("the tune is out of range, ahead of a note that is not there");
    tuneRefused((d, t) -> d.time(t, -1));
    tuneRefused((d, t) -> d.time(t, MAX));
    edge("there is no such note, be there a choice or not");
    numberRefused(false, (d, t, note) -> d.time(t, note));
    for (int n = 0; n <= 10; n++) {
      int notes = n;
      edge("the numbers of " + notes + " notes");
      for (int i = 0; i < notes; i++) {
        int note = i;
        due(4, withNotes(0, notes), d -> d.time(0, note));
      }
      due(INDEX, withNotes(0, notes), d -> d.time(0, notes));
      due(INDEX, withNotes(0, notes), d -> d.time(0, -1));
    }
    edge("there is no choice, be the note in front, within or the last one");
    for (int i = 0; i < 3; i++) {
      int note = i;
      refused(STATE, DeskChecks::hopeless, d -> d.time(0, note));
    }
    edge("there is no choice because of a wish, of a barred movement, of one pitch twice, of a length");
    refused(STATE, PipersDeskTuneEdges::wishOfNothing, d -> d.time(0, 1));
    refused(STATE, () -> withTune(4, 4, 5), d -> d.time(0, 1));
    refused(STATE, () -> withTune(4, 3, 3), d -> d.time(0, 0));
    refused(STATE, PipersDeskTuneEdges::tooShort, d -> d.time(0, 0));
    edge("a tune without a choice does not hinder another one");
    due(4, hopeless(), d -> d.time(1, 0));
  }

  private static PipersDesk wishOfNothing() {
    PipersDesk desk = withNotes(0, 2);
    desk.setWish(0, 0, true);
    return desk;
  }

  private static PipersDesk tooShort() {
    PipersDesk desk = withTune(2, 0, 0);
    ornament(desk, 7, 8);
    return desk;
  }

  private static void time() {
    edge("a tune with one note: its whole length, the smallest and the largest");
    due(1, withTune(1, 0), d -> d.time(0, 0));
    due(32, withTune(32, 0), d -> d.time(0, 0));
    edge("the last note: its whole length");
    PipersDesk last = withTune(5, 0, 0);
    ornament(last, 7);
    due(4, last, d -> d.time(0, 0));
    due(5, last, d -> d.time(0, 1));
    int[][] sizes = {{7}, {7, 8}, {7, 8, 7}, {7, 8, 7, 8}};
    for (int[] graces : sizes) {
      int size = graces.length;
      edge(size + " grace notes leave at least 1, and most of 32");
      PipersDesk desk = new PipersDesk();
      ornament(desk, graces);
      tune(desk, 0, size + 1, 0, 0);
      tune(desk, 1, 32, 0, 0);
      due(1, desk, d -> d.time(0, 0));
      due(32 - size, desk, d -> d.time(1, 0));
    }
    edge("a gap without an ornament takes no time");
    PipersDesk without = withNotes(0, 2);
    ornament(without, 7);
    due(4, without, d -> d.time(0, 0));
    edge("the ornament before a note takes none of its time");
    without.setWish(0, 0, true);
    without.addNote(0, 0, 4);
    due(3, without, d -> d.time(0, 0));
    due(4, without, d -> d.time(0, 1));
    due(4, without, d -> d.time(0, 2));
  }

  private static void timeOfEqualCosts() {
    // From 0 to 7 one by one, or at once: the three ornaments and none cost 4.
    int[][] graces = {{1, 5, 6}, {5, 6}, {5}};
    for (int first = 0; first < 3; first++) {
      PipersDesk desk = new PipersDesk();
      for (int o = 0; o < 3; o++) {
        ornament(desk, graces[(first + o) % 3]);
      }
      tune(desk, 0, 4, 0, 7);
      edge("of equal costs none is the first choice, ahead of " + graces[first].length + " grace notes");
      due(4, desk, d -> d.time(0, 0));
      edge("of equal costs the lower number is the first choice, of " + graces[first].length + " grace notes");
      int size = graces[first].length;
      desk.setWish(0, 0, true);
      due(4, desk, d -> d.least(0));
      due(4 - size, desk, d -> d.time(0, 0));
    }
    edge("of equal costs the first one that fits in the length");
    PipersDesk brief = new PipersDesk();
    for (int[] ornament : graces) {
      ornament(brief, ornament);
    }
    tune(brief, 0, 3, 0, 7);
    tune(brief, 1, 2, 0, 7);
    brief.setWish(0, 0, true);
    brief.setWish(1, 0, true);
    due(1, brief, d -> d.time(0, 0));
    due(1, brief, d -> d.time(1, 0));
    edge("the least cost ahead of the lower number");
    PipersDesk dear = new PipersDesk();
    ornament(dear, 7, 8);
    ornament(dear, 1);
    tune(dear, 0, 4, 0, 0);
    due(3, dear, d -> d.time(0, 0));
  }

  public static void main(String[] args) {
    part(PipersDeskTuneEdges::addNoteArguments);
    part(PipersDeskTuneEdges::addNoteFullAndEmpty);
    part(PipersDeskTuneEdges::addNoteWithoutWish);
    part(PipersDeskTuneEdges::removeNote);
    part(PipersDeskTuneEdges::setWish);
    part(PipersDeskTuneEdges::setWishBefore);
    part(PipersDeskTuneEdges::notes);
    part(PipersDeskTuneEdges::timeRefused);
    part(PipersDeskTuneEdges::time);
    part(PipersDeskTuneEdges::timeOfEqualCosts);
    end();
  }
}
