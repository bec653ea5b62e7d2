/** The edges that the document names for choices: promises 14 to 19. */
public final class PipersDeskChoiceEdges extends DeskChecks {

  /** A desk whose tune 0 has these pitches, each of the length 4, and a wish at each gap. */
  private static PipersDesk wished(int... pitches) {
    PipersDesk desk = unwished(pitches);
    wishAll(desk, 0);
    return desk;
  }

  private static PipersDesk unwished(int... pitches) {
    PipersDesk desk = new PipersDesk();
    tune(desk, 0, 4, pitches);
    return desk;
  }

  private static PipersDesk with(PipersDesk desk, int... graces) {
    ornament(desk, graces);
    return desk;
  }

  private static void fittingRefused() {
    promise("14 fitting");
    edge("the tune is out of range");
    tuneRefused((d, t) -> d.fitting(t, 0));
    edge("the tune is out of range, ahead of a gap that is not there");
    tuneRefused((d, t) -> d.fitting(t, -1));
    tuneRefused((d, t) -> d.fitting(t, MAX));
    edge("there is no such gap");
    numberRefused(true, (d, t, gap) -> d.fitting(t, gap));
    edge("a tune with no note and with one has no gap");
    due(INDEX, unwished(), d -> d.fitting(0, 0));
    due(INDEX, unwished(3), d -> d.fitting(0, 0));
    edge("the first and the last gap of two and of ten notes");
    PipersDesk desk = greatest();
    tune(desk, 3, 4, 0, 2);
    due(8, desk, d -> d.fitting(3, 0));
    due(INDEX, desk, d -> d.fitting(3, 1));
    due(8, desk, d -> d.fitting(0, 0));
    due(8, desk, d -> d.fitting(0, 8));
    due(INDEX, desk, d -> d.fitting(0, 9));
  }

  private static void fitting() {
    PipersDesk desk = unwished(0, 2);
    for (int o = 0; o <= 8; o++) {
      int fitting = o;
      edge(fitting + " ornaments fit, of as many");
      due(fitting, desk, d -> d.fitting(0, 0));
      edge("a draft is no ornament, beside " + fitting);
      desk.grace(1);
      due(fitting, desk, d -> d.fitting(0, 0));
      if (o < 8) {
        desk.enter();
      }
    }
    edge("none of 8 ornaments fits");
    PipersDesk none = unwished(0, 1);
    for (int o = 0; o < 8; o++) {
      ornament(none, 1);
    }
    due(0, none, d -> d.fitting(0, 0));
    edge("each one counts by itself");
    due(5, full(), d -> d.fitting(0, 0));
    edge("whatever stands at others: the same one at two gaps one right behind the other");
    due(1, hopeless(), d -> d.fitting(0, 0));
    due(1, hopeless(), d -> d.fitting(0, 1));
    edge("a wish changes nothing");
    PipersDesk wish = with(unwished(0, 1), 7);
    due(1, wish, d -> d.fitting(0, 0));
    wish.setWish(0, 0, true);
    due(1, wish, d -> d.fitting(0, 0));
    edge("the length of the note before decides, not that of the note behind");
    for (int l = 1; l <= 5; l++) {
      int length = l;
      PipersDesk lengths = new PipersDesk();
      ornament(lengths, 7);
      ornament(lengths, 7, 8);
      ornament(lengths, 7, 8, 7);
      ornament(lengths, 7, 8, 7, 8);
      lengths.addNote(0, 0, length);
      lengths.addNote(0, 0, 6 - length);
      due(length - 1, lengths, d -> d.fitting(0, 0));
    }
    edge("a movement that is barred, and one that costs just the limit");
    PipersDesk limit = with(unwished(4, 0), 5);
    limit.setLimit(4);
    due(0, limit, d -> d.fitting(0, 0));
    limit.setLimit(5);
    due(1, limit, d -> d.fitting(0, 0));
  }

  private static void choicesNone() {
    promise("15 choices");
    edge("the tune is out of range");
    tuneRefused((d, t) -> d.choices(t));
    for (int t = 0; t < 4; t++) {
      int tune = t;
      edge("the tune " + tune + " with no note, with one and with two");
      PipersDesk desk = with(new PipersDesk(), 7);
      due(1, desk, d -> d.choices(tune));
      desk.addNote(tune, 0, 4);
      due(1, desk, d -> d.choices(tune));
      desk.addNote(tune, 1, 4);
      due(2, desk, d -> d.choices(tune));
    }
    edge("none: the pitches are the same, and no ornament fits");
    due(0, unwished(3, 3), d -> d.choices(0));
    due(0, with(unwished(3, 3), 3), d -> d.choices(0));
    edge("none: the movement is barred, and no ornament fits");
    due(0, unwished(4, 5), d -> d.choices(0));
    due(0, with(unwished(4, 5), 8), d -> d.choices(0));
    edge("none: a wish, and no ornament fits");
    due(0, wished(0, 1), d -> d.choices(0));
    due(0, with(wished(0, 1), 1), d -> d.choices(0));
    edge("none: the length is too small");
    PipersDesk brief = with(new PipersDesk(), 7, 8, 7, 8);
    tune(brief, 0, 4, 0, 0);
    tune(brief, 1, 5, 0, 0);
    due(0, brief, d -> d.choices(0));
    due(1, brief, d -> d.choices(1));
    edge("none: the same ornament would stand at two gaps one right behind the other");
    due(0, hopeless(), d -> d.choices(0));
    due(0, with(wished(0, 1, 0), 7), d -> d.choices(0));
    edge("none: at one gap of nine");
    for (int gap = 0; gap <= 8; gap++) {
      PipersDesk nine = unwished(0, 1, 0, 1, 0, 1, 0, 1, 0, 1);
      due(1, nine, d -> d.choices(0));
      nine.setWish(0, gap, true);
      due(0, nine, d -> d.choices(0));
    }
  }

  private static void choices() {
    edge("one ornament at two gaps with a gap between them");
    PipersDesk apart = with(unwished(0, 1, 0, 1), 7);
    apart.setWish(0, 0, true);
    apart.setWish(0, 2, true);
    due(1, apart, d -> d.choices(0));
    edge("no ornament at two gaps one right behind the other");
    due(1, unwished(0, 1, 0), d -> d.choices(0));
    edge("two ornaments of the same grace notes are not the same ornament");
    due(2, with(with(wished(0, 0, 0), 7), 7), d -> d.choices(0));
    edge("the same pitches and a barred movement: an ornament without a wish");
    due(1, with(unwished(0, 0), 7), d -> d.choices(0));
    due(1, with(unwished(4, 5), 0), d -> d.choices(0));
    edge("a movement that costs just the limit: none or the ornament");
    PipersDesk limit = with(unwished(4, 5), 0);
    limit.setLimit(5);
    due(2, limit, d -> d.choices(0));
    edge("whatever they cost");
    due(3, with(with(unwished(0, 1), 7), 7, 0, 7), d -> d.choices(0));
    edge("none or one of 8 ornaments, at one gap up to nine");
    int[] counts = {9, 73, 593, 4817, 39129, 317849, 2581921, 20973217, 170367657};
    PipersDesk desk = greatest();
    for (int gaps = 9; gaps >= 1; gaps--) {
      due(counts[gaps - 1], desk, d -> d.choices(0));
      desk.removeNote(0);
    }
    due(1, desk, d -> d.choices(0));
    edge("one of 8 ornaments at each of nine gaps");
    PipersDesk all = greatest();
    wishAll(all, 0);
    due(8 * 7 * 7 * 7 * 7 * 7 * 7 * 7 * 7, all, d -> d.choices(0));
  }

  /** The tune, and that it has a choice, as all calls look at them that ask for the first choice. */
  private static void refusedWithoutChoice(TuneCall call) {
    edge("the tune is out of range, be there a choice for others or not");
    tuneRefused(call);
    edge("there is no choice");
    refused(STATE, DeskChecks::hopeless, d -> call.on(d, 0));
    refused(STATE, () -> unwished(3, 3), d -> call.on(d, 0));
    refused(STATE, () -> unwished(4, 5), d -> call.on(d, 0));
    refused(STATE, () -> wished(0, 1), d -> call.on(d, 0));
    refused(STATE, () -> with(wished(0, 1, 0), 7), d -> call.on(d, 0));
    refused(STATE, () -> unwished(0, 1, 0, 1, 0, 1, 0, 1, 0, 0), d -> call.on(d, 0));
    refused(STATE, () -> unwished(0, 0, 1, 0, 1, 0, 1, 0, 1, 0), d -> call.on(d, 0));
    edge("there is a choice as soon as an ornament fits, and none when it does not");
    PipersDesk desk = unwished(0, 0);
    due(STATE, desk, d -> call.on(d, 0));
    ornament(desk, 7);
    due(false, desk, d -> outcome(d, x -> call.on(x, 0)).equals(STATE));
    desk.removeNote(0);
    desk.addNote(0, 7, 4);
    desk.setWish(0, 0, true);
    due(STATE, desk, d -> call.on(d, 0));
  }

  private static void least() {
    promise("16 least");
    refusedWithoutChoice((d, t) -> d.least(t));
    for (int t = 0; t < 4; t++) {
      int tune = t;
      edge("the tune " + tune + " with no note, with one and with two");
      PipersDesk desk = new PipersDesk();
      due(0, desk, d -> d.least(tune));
      desk.addNote(tune, 8, 1);
      due(0, desk, d -> d.least(tune));
      desk.addNote(tune, 0, 1);
      due(4, desk, d -> d.least(tune));
    }
    edge("a gap without an ornament costs the movement, the smallest and the largest");
    due(1, unwished(0, 1), d -> d.least(0));
    PipersDesk seven = unwished(4, 8);
    seven.setLimit(7);
    due(7, seven, d -> d.least(0));
    seven.setLimit(6);
    due(STATE, seven, d -> d.least(0));
    edge("an ornament costs all its movements, of 1, 2, 3 and 4 grace notes");
    due(4 + 4, with(wished(0, 0), 7), d -> d.least(0));
    due(4 + 2 + 4, with(wished(0, 0), 7, 8), d -> d.least(0));
    due(4 + 2 + 1 + 3, with(wished(0, 0), 7, 8, 6), d -> d.least(0));
    PipersDesk four = new PipersDesk();
    ornament(four, 7, 8, 6, 5);
    tune(four, 0, 5, 0, 0);
    due(4 + 2 + 1 + 1 + 2, four, d -> d.least(0));
    edge("the cheapest at each gap, but not the same one right behind itself");
    PipersDesk cheap = with(with(wished(0, 0, 0), 7), 1);
    due(2 + 8, cheap, d -> d.least(0));
    ornament(cheap, 5);
    due(2 + 4, cheap, d -> d.least(0));
    ornament(cheap, 1);
    due(2 + 2, cheap, d -> d.least(0));
    edge("a cheaper one that does not fit does not count");
    PipersDesk brief = with(with(new PipersDesk(), 1, 0, 1), 7);
    tune(brief, 0, 4, 0, 0);
    tune(brief, 1, 3, 0, 0);
    due(4, brief, d -> d.least(0));
    due(8, brief, d -> d.least(1));
    edge("ten notes, at each gap the dearest ornament that can be");
    due(9 * 5 * 7, dearest(), d -> d.least(0));
  }

  /** Between 4 and 8 an ornament of four grace notes stands at each gap, with movements of 7 each. */
  private static PipersDesk dearest() {
    PipersDesk desk = new PipersDesk();
    ornament(desk, 9, 10, 9, 10);
    ornament(desk, 9, 10, 9, 10);
    tune(desk, 0, 5, 4, 8, 4, 8, 4, 8, 4, 8, 4, 8);
    wishAll(desk, 0);
    desk.setLimit(7);
    return desk;
  }

  private static void chosenRefused() {
    promise("17 chosen");
    refusedWithoutChoice((d, t) -> d.chosen(t, 0));
    edge("the tune is out of range, ahead of a gap that is not there");
    tuneRefused((d, t) -> d.chosen(t, -1));
    tuneRefused((d, t) -> d.chosen(t, MAX));
    edge("there is no such gap, be there a choice or not");
    numberRefused(true, (d, t, gap) -> d.chosen(t, gap));
    edge("a tune with no note and with one has no gap");
    due(INDEX, unwished(), d -> d.chosen(0, 0));
    due(INDEX, unwished(3), d -> d.chosen(0, 0));
    edge("there is no choice, at each gap that is there");
    refused(STATE, DeskChecks::hopeless, d -> d.chosen(0, 0));
    refused(STATE, DeskChecks::hopeless, d -> d.chosen(0, 1));
    for (int n = 2; n <= 10; n++) {
      int notes = n;
      edge("the first and the last gap of " + notes + " notes, and the next one on either side");
      PipersDesk desk = new PipersDesk();
      for (int i = 0; i < notes; i++) {
        desk.addNote(3, i % 2, 4);
      }
      due(-1, desk, d -> d.chosen(3, 0));
      due(-1, desk, d -> d.chosen(3, notes - 2));
      due(INDEX, desk, d -> d.chosen(3, notes - 1));
      due(INDEX, desk, d -> d.chosen(3, -1));
    }
  }

  private static void chosenOfEqualCosts() {
    edge("of equal costs none comes first");
    due(-1, with(unwished(0, 2), 1), d -> d.chosen(0, 0));
    edge("of equal costs the lower number comes first, of all eight");
    PipersDesk eight = greatest();
    wishAll(eight, 0);
    for (int g = 0; g <= 8; g++) {
      int gap = g;
      due(gap % 2, eight, d -> d.chosen(0, gap));
    }
    edge("the first gap at which they differ decides");
    PipersDesk first = greatest();
    for (int gap : new int[] {1, 2, 4}) {
      first.setWish(0, gap, true);
    }
    int[] want = {-1, 0, 1, -1, 0, -1, -1, -1, -1};
    for (int g = 0; g <= 8; g++) {
      int gap = g;
      due(want[g], first, d -> d.chosen(0, gap));
    }
    edge("the highest number");
    PipersDesk last = wished(7, 0);
    for (int o = 0; o < 8; o++) {
      ornament(last, o == 7 ? 6 : 7);
    }
    due(7, last, d -> d.chosen(0, 0));
    edge("the number 0, of two that cost as much where none cannot stand");
    PipersDesk zero = with(with(with(unwished(0, 0), 1), 1), 7);
    due(0, zero, d -> d.chosen(0, 0));
    edge("the one that was entered first, whichever it is");
    due(0, with(with(wished(0, 7), 5), 5, 6), d -> d.chosen(0, 0));
    due(0, with(with(wished(0, 7), 5, 6), 5), d -> d.chosen(0, 0));
  }

  private static void chosenOfLeastCost() {
    edge("the least cost ahead of the lower number");
    due(1, with(with(wished(0, 0), 7), 1), d -> d.chosen(0, 0));
    edge("the least cost of all gaps ahead of the lower number at the first one");
    // Both cost 4 from 0 to 7; back to 0 it is 4 for the first one, and 8 for the second one.
    PipersDesk back = with(with(wished(0, 7, 0), 5), 1, 5, 6);
    due(1, back, d -> d.chosen(0, 0));
    due(0, back, d -> d.chosen(0, 1));
    due(8, back, d -> d.least(0));
    edge("what is dearer at the first gap, for a choice at all at the second one");
    PipersDesk needed = with(with(new PipersDesk(), 1), 7, 8);
    needed.addNote(0, 0, 3);
    tune(needed, 0, 2, 0, 0);
    due(1, needed, d -> d.chosen(0, 0));
    due(0, needed, d -> d.chosen(0, 1));
    due(10 + 2, needed, d -> d.least(0));
    edge("the choice follows wishes, ornaments and the limit");
    PipersDesk desk = with(unwished(4, 5), 0);
    due(0, desk, d -> d.chosen(0, 0));
    desk.setLimit(5);
    due(-1, desk, d -> d.chosen(0, 0));
    desk.setWish(0, 0, true);
    due(0, desk, d -> d.chosen(0, 0));
    ornament(desk, 3);
    due(0, desk, d -> d.chosen(0, 0));
    desk.removeNote(0);
    desk.addNote(0, 4, 4);
    due(1, desk, d -> d.chosen(0, 0));
  }

  private static void mostOrnaments() {
    promise("18 mostOrnaments");
    refusedWithoutChoice((d, t) -> d.mostOrnaments(t));
    for (int t = 0; t < 4; t++) {
      int tune = t;
      edge("the tune " + tune + " with no note, with one and with two");
      PipersDesk desk = with(new PipersDesk(), 7);
      due(0, desk, d -> d.mostOrnaments(tune));
      desk.addNote(tune, 0, 2);
      due(0, desk, d -> d.mostOrnaments(tune));
      desk.addNote(tune, 1, 2);
      due(1, desk, d -> d.mostOrnaments(tune));
    }
    edge("one ornament at every second gap, two at each one, of one gap up to nine");
    PipersDesk one = with(unwished(0, 1, 0, 1, 0, 1, 0, 1, 0, 1), 7);
    PipersDesk two = with(with(unwished(0, 1, 0, 1, 0, 1, 0, 1, 0, 1), 7), 8);
    for (int g = 9; g >= 0; g--) {
      int gaps = g;
      due((gaps + 1) / 2, one, d -> d.mostOrnaments(0));
      due(gaps, two, d -> d.mostOrnaments(0));
      one.removeNote(0);
      two.removeNote(0);
    }
    edge("over all choices, not only those of the least cost");
    PipersDesk dear = with(unwished(0, 1), 7, 0, 7);
    due(1, dear, d -> d.mostOrnaments(0));
    due(-1, dear, d -> d.chosen(0, 0));
    edge("none, as no ornament is there, fits or is short enough");
    due(0, unwished(0, 1), d -> d.mostOrnaments(0));
    due(0, with(unwished(0, 1), 1), d -> d.mostOrnaments(0));
    due(0, with(unwished(0, 1), 7, 0, 7, 0), d -> d.mostOrnaments(0));
    edge("a wish that takes the ornament from both neighbours");
    PipersDesk middle = with(unwished(0, 1, 0, 1), 7);
    due(2, middle, d -> d.mostOrnaments(0));
    middle.setWish(0, 1, true);
    due(1, middle, d -> d.mostOrnaments(0));
    edge("ornaments that must stand count too");
    due(1, with(unwished(0, 0), 7), d -> d.mostOrnaments(0));
    due(9, dearest(), d -> d.mostOrnaments(0));
  }

  private static void average() {
    promise("19 average");
    refusedWithoutChoice((d, t) -> d.average(t));
    for (int t = 0; t < 4; t++) {
      int tune = t;
      edge("the tune " + tune + " with no note and with one has no gaps");
      PipersDesk desk = new PipersDesk();
      due(0.0f, desk, d -> d.average(tune));
      desk.addNote(tune, 8, 1);
      due(0.0f, desk, d -> d.average(tune));
      edge("the tune " + tune + " with two notes has one gap");
      desk.addNote(tune, 0, 1);
      due(4.0f, desk, d -> d.average(tune));
    }
    edge("a cost that the number of gaps does not divide, as a float");
    due("1.5", unwished(0, 1, 6), d -> d.average(0));
    due("1.3333334", unwished(0, 1, 0, 2), d -> d.average(0));
    due("1.6666666", unwished(0, 1, 6, 1), d -> d.average(0));
    due("1.1111112", unwished(0, 1, 0, 1, 0, 1, 0, 1, 0, 2), d -> d.average(0));
    edge("the greatest one, of nine gaps");
    due("35.0", dearest(), d -> d.average(0));
    edge("the least cost, not that of other choices");
    due("1.0", with(unwished(0, 1), 7), d -> d.average(0));
  }

  private static void shorterBehindLonger() {
    edge("a tune of 10 notes is asked for, and then shorter ones");
    PipersDesk desk = with(with(unwished(0, 1, 0, 1, 0, 1, 0, 1, 0, 1), 7), 8);
    tune(desk, 1, 4, 0, 0, 0);
    tune(desk, 2, 4, 0, 6);
    tune(desk, 3, 4, 5);
    int[] leasts = {9, 16, 3, 0};
    int[] mosts = {9, 2, 1, 0};
    for (int t = 0; t < 4; t++) {
      int tune = t;
      of("16 least");
      due(leasts[t], desk, d -> d.least(tune));
      of("18 mostOrnaments");
      due(mosts[t], desk, d -> d.mostOrnaments(tune));
      of("13 time");
      due(4, desk, d -> d.time(tune, d.notes(tune) - 1));
    }
    edge("a tune of 10 notes that loses one note at a time");
    for (int n = 10; n >= 1; n--) {
      int gaps = n - 1;
      of("16 least");
      due(gaps, desk, d -> d.least(0));
      of("19 average");
      due(gaps == 0 ? 0.0f : 1.0f, desk, d -> d.average(0));
      of("17 chosen");
      due(gaps == 0 ? INDEX : -1, desk, d -> d.chosen(0, gaps - 1));
      of("13 time");
      due(4, desk, d -> d.time(0, gaps));
      desk.removeNote(0);
    }
    of("16 least");
    due(0, desk, d -> d.least(0));
  }

  public static void main(String[] args) {
    part(PipersDeskChoiceEdges::fittingRefused);
    part(PipersDeskChoiceEdges::fitting);
    part(PipersDeskChoiceEdges::choicesNone);
    part(PipersDeskChoiceEdges::choices);
    part(PipersDeskChoiceEdges::least);
    part(PipersDeskChoiceEdges::chosenRefused);
    part(PipersDeskChoiceEdges::chosenOfEqualCosts);
    part(PipersDeskChoiceEdges::chosenOfLeastCost);
    part(PipersDeskChoiceEdges::mostOrnaments);
    part(PipersDeskChoiceEdges::average);
    part(PipersDeskChoiceEdges::shorterBehindLonger);
    end();
  }
}
