import java.util.Arrays;
import java.util.NoSuchElementException;

/**
 * A desk for pipers: tunes are sequences of notes whose pitches are fingerings; between two notes
 * an ornament of short grace notes may stand, which takes its time from the note before.
 */
public final class PipersDesk {
    private static final int PITCHES = 9;
    private static final int FIRST_LIMIT = 3;
    private static final int HIGHEST_LIMIT = 8;
    private static final int MOST_ORNAMENTS = 8;
    private static final int MOST_GRACES = 4;
    private static final int PITCH_BEHIND = 9;
    private static final int PITCH_BEFORE = 10;
    private static final int TUNES = 4;
    private static final int MOST_NOTES = 10;
    private static final int MOST_GAPS = MOST_NOTES - 1;
    private static final int LONGEST = 32;
    private static final int MOST_ORDERS = 24;

    // At a gap stands an option: 0 is no ornament, n + 1 is the ornament n. So the order of the
    // options is the order in which choices come.
    private static final int NONE = 0;
    private static final int OPTIONS = MOST_ORNAMENTS + 1;

    // The cost of what cannot be played. It is far above that of all that can: 39 gaps with five
    // movements of eight holes each.
    private static final int NO_WAY = 1000000;

    // The closed holes of each pitch: the hole h is the bit h.
    private static final int[] CLOSED = {
        0b11111111, 0b01111111, 0b00111111, 0b10011111, 0b10001111,
        0b01110111, 0b01110011, 0b01110001, 0b01110010
    };

    private final Fingers fingers;
    private final OrnamentBook book;
    private final Tune[] tunes;
    private final TuneChoices tuneChoices;
    private final SetSearch setSearch;

    public PipersDesk() {
        fingers = new Fingers();
        book = new OrnamentBook();
        tunes = new Tune[TUNES];
        for (int t = 0; t < TUNES; t++) {
            tunes[t] = new Tune();
        }
        tuneChoices = new TuneChoices();
        setSearch = new SetSearch();
    }

    // ---- movements

    public int cost(int from, int to) throws IllegalArgumentException {
        checkPitch(from);
        checkPitch(to);
        return Fingers.holesMoved(from, to);
    }

    public boolean isBarred(int from, int to) throws IllegalArgumentException {
        checkPitch(from);
        checkPitch(to);
        return fingers.bars(from, to);
    }

    public int setLimit(int limit) throws IllegalArgumentException {
        if (limit < 0 || limit > HIGHEST_LIMIT) {
            throw new IllegalArgumentException("limit out of range");
        }
        return fingers.limitTo(limit);
    }

    // ---- ornaments

    public int grace(int grace) throws IllegalArgumentException, IllegalStateException {
        if (grace < 0 || grace > PITCH_BEFORE) {
            throw new IllegalArgumentException("grace note out of range");
        }
        if (book.isDraftFull()) {
            throw new IllegalStateException("the draft is full");
        }
        return book.addToDraft(grace);
    }

    public int enter() throws IllegalStateException {
        if (book.isDraftEmpty() || book.isFull()) {
            throw new IllegalStateException("the draft is empty, or there is no room for it");
        }
        return book.enterDraft();
    }

    public int ornaments() {
        return book.size();
    }

    public boolean fits(int ornament, int before, int length, int behind)
            throws IndexOutOfBoundsException, IllegalArgumentException {
        if (ornament < 0 || ornament >= book.size()) {
            throw new IndexOutOfBoundsException("no such ornament");
        }
        checkPitch(before);
        checkLength(length);
        checkPitch(behind);
        return book.costOf(ornament, fingers, before, length, behind) < NO_WAY;
    }

    // ---- tunes

    public int addNote(int tune, int pitch, int length)
            throws IllegalArgumentException, IllegalStateException {
        checkTune(tune);
        checkPitch(pitch);
        checkLength(length);
        if (tunes[tune].size() >= MOST_NOTES) {
            throw new IllegalStateException("the tune is full");
        }
        return tunes[tune].append(pitch, length);
    }

    public int removeNote(int tune) throws IllegalArgumentException, NoSuchElementException {
        checkTune(tune);
        if (tunes[tune].size() == 0) {
            throw new NoSuchElementException("the tune has no notes");
        }
        return tunes[tune].dropLast();
    }

    public boolean setWish(int tune, int gap, boolean wish)
            throws IllegalArgumentException, IndexOutOfBoundsException {
        checkTune(tune);
        checkGap(tune, gap);
        return tunes[tune].replaceWish(gap, wish);
    }

    public int notes(int tune) throws IllegalArgumentException {
        checkTune(tune);
        return tunes[tune].size();
    }

    public int time(int tune, int note)
            throws IllegalArgumentException, IndexOutOfBoundsException, IllegalStateException {
        checkTune(tune);
        if (note < 0 || note >= tunes[tune].size()) {
            throw new IndexOutOfBoundsException("no such note");
        }
        solve(tune);
        int full = tunes[tune].lengthOf(note);
        return note < tunes[tune].gaps() ? full - book.gracesOf(tuneChoices.firstAt(note)) : full;
    }

    // ---- choices

    public int fitting(int tune, int gap)
            throws IllegalArgumentException, IndexOutOfBoundsException {
        checkTune(tune);
        checkGap(tune, gap);
        tunes[tune].weighGaps(fingers, book);
        int[] costs = tunes[tune].costsAt(gap);
        int fitting = 0;
        for (int option = NONE + 1; option < OPTIONS; option++) {
            if (costs[option] < NO_WAY) {
                fitting++;
            }
        }
        return fitting;
    }

    public int choices(int tune) throws IllegalArgumentException {
        checkTune(tune);
        tunes[tune].weighGaps(fingers, book);
        return tuneChoices.countFor(tunes[tune]);
    }

    public int least(int tune) throws IllegalArgumentException, IllegalStateException {
        checkTune(tune);
        return solve(tune);
    }

    public int chosen(int tune, int gap)
            throws IllegalArgumentException, IndexOutOfBoundsException, IllegalStateException {
        checkTune(tune);
        checkGap(tune, gap);
        solve(tune);
        return tuneChoices.firstAt(gap) - 1;
    }

    public int mostOrnaments(int tune) throws IllegalArgumentException, IllegalStateException {
        checkTune(tune);
        solve(tune);
        return tunes[tune].gaps() - tuneChoices.fewestEmptyGaps(tunes[tune]);
    }

    public float average(int tune) throws IllegalArgumentException, IllegalStateException {
        checkTune(tune);
        int cost = solve(tune);
        int gaps = tunes[tune].gaps();
        return gaps == 0 ? 0.0f : (float) cost / (float) gaps;
    }

    // ---- sets

    public int leastSet() throws IllegalStateException {
        if (trySets() == 0) {
            throw new IllegalStateException("no set with a choice");
        }
        return setSearch.leastCost();
    }

    public int tuneAt(int place) throws IllegalStateException, IndexOutOfBoundsException {
        if (trySets() == 0) {
            throw new IllegalStateException("no set with a choice");
        }
        if (place < 0 || place >= setSearch.size()) {
            throw new IndexOutOfBoundsException("no such place");
        }
        return setSearch.bestAt(place);
    }

    public int sets() {
        return trySets();
    }

    private static void checkPitch(int pitch) {
        if (pitch < 0 || pitch >= PITCHES) {
            throw new IllegalArgumentException("pitch out of range");
        }
    }

    private static void checkLength(int length) {
        if (length < 1 || length > LONGEST) {
            throw new IllegalArgumentException("length out of range");
        }
    }

    private static void checkTune(int tune) {
        if (tune < 0 || tune >= TUNES) {
            throw new IllegalArgumentException("tune out of range");
        }
    }

    private void checkGap(int tune, int gap) {
        if (gap < 0 || gap >= tunes[tune].gaps()) {
            throw new IndexOutOfBoundsException("no such gap");
        }
    }

    /** Leaves the least choices for a tune in tuneChoices, and returns their cost. */
    private int solve(int tune) {
        tunes[tune].weighGaps(fingers, book);
        int cost = tuneChoices.solveFor(tunes[tune]);
        if (cost >= NO_WAY) {
            throw new IllegalStateException("no choice for the tune");
        }
        return cost;
    }

    /** Leaves the best set in setSearch, and returns how many sets have a choice. */
    private int trySets() {
        for (int t = 0; t < TUNES; t++) {
            tunes[t].weighGaps(fingers, book);
        }
        setSearch.weighJoins(tunes, fingers, book);
        return setSearch.tryAllOrders(tunes);
    }

    /** The movements of the fingers under the limit. */
    private static final class Fingers {
        private final int[][] stepCosts;

        Fingers() {
            stepCosts = new int[PITCHES][PITCHES];
            limitTo(FIRST_LIMIT);
        }

        static int holesMoved(int from, int to) {
            return Integer.bitCount(CLOSED[from] ^ CLOSED[to]);
        }

        private static boolean crosses(int from, int to) {
            boolean opens = (CLOSED[from] & ~CLOSED[to]) != 0;
            boolean closes = (CLOSED[to] & ~CLOSED[from]) != 0;
            return opens && closes;
        }

        /** Sets the limit, and returns how many movements are barred then. */
        int limitTo(int limit) {
            int barred = 0;
            for (int from = 0; from < PITCHES; from++) {
                for (int to = 0; to < PITCHES; to++) {
                    int holes = holesMoved(from, to);
                    boolean stopped = crosses(from, to) && holes > limit;
                    stepCosts[from][to] = stopped || from == to ? NO_WAY : holes;
                    if (stopped) {
                        barred++;
                    }
                }
            }
            return barred;
        }

        boolean bars(int from, int to) {
            return from != to && stepCosts[from][to] == NO_WAY;
        }

        /** The cost from a pitch to the one that follows it; NO_WAY if barred, or no movement. */
        int stepCost(int from, int to) {
            return stepCosts[from][to];
        }
    }

    private static final class Ornament {
        private final int[] graces;

        Ornament(int[] graces) {
            this.graces = graces;
        }

        int size() {
            return graces.length;
        }

        /** The cost between two notes; NO_WAY if the ornament does not fit there. */
        int costBetween(Fingers fingers, int before, int length, int behind) {
            if (graces.length >= length) {
                return NO_WAY;
            }
            int sum = 0;
            int from = before;
            for (int i = 0; i < graces.length; i++) {
                int to = soundOf(graces[i], before, behind);
                sum += fingers.stepCost(from, to);
                from = to;
            }
            return Math.min(NO_WAY, sum + fingers.stepCost(from, behind));
        }

        private static int soundOf(int grace, int before, int behind) {
            if (grace == PITCH_BEHIND) {
                return behind;
            }
            return grace == PITCH_BEFORE ? before : grace;
        }
    }

    /** The ornaments, and the draft of the next one. */
    private static final class OrnamentBook {
        private final Ornament[] entries;
        private final int[] draft;
        private int size;
        private int draftSize;

        OrnamentBook() {
            entries = new Ornament[MOST_ORNAMENTS];
            draft = new int[MOST_GRACES];
        }

        int size() {
            return size;
        }

        boolean isFull() {
            return size >= MOST_ORNAMENTS;
        }

        boolean isDraftEmpty() {
            return draftSize == 0;
        }

        boolean isDraftFull() {
            return draftSize >= MOST_GRACES;
        }

        int addToDraft(int grace) {
            draft[draftSize] = grace;
            draftSize++;
            return draftSize;
        }

        int enterDraft() {
            entries[size] = new Ornament(Arrays.copyOf(draft, draftSize));
            draftSize = 0;
            size++;
            return size - 1;
        }

        /** The cost of an ornament between two notes; NO_WAY if it does not fit, or is none. */
        int costOf(int ornament, Fingers fingers, int before, int length, int behind) {
            Ornament entry = entries[ornament];
            return entry == null ? NO_WAY : entry.costBetween(fingers, before, length, behind);
        }

        int gracesOf(int option) {
            if (option == NONE) {
                return 0;
            }
            Ornament entry = entries[option - 1];
            return entry == null ? 0 : entry.size();
        }

        /** Writes into costs what each option costs at a gap; NO_WAY where it may not stand. */
        void weigh(Fingers fingers, int before, int length, int behind, boolean wish, int[] costs) {
            costs[NONE] = wish ? NO_WAY : fingers.stepCost(before, behind);
            for (int ornament = 0; ornament < MOST_ORNAMENTS; ornament++) {
                costs[ornament + 1] = costOf(ornament, fingers, before, length, behind);
            }
        }
    }

    /** The notes and wishes of a tune, and what each option costs at its gaps. */
    private static final class Tune {
        private final int[] pitches;
        private final int[] lengths;
        private final boolean[] wishes;
        private final int[][] gapCosts;
        private int size;

        Tune() {
            pitches = new int[MOST_NOTES];
            lengths = new int[MOST_NOTES];
            wishes = new boolean[MOST_GAPS];
            gapCosts = new int[MOST_GAPS][OPTIONS];
        }

        int size() {
            return size;
        }

        int gaps() {
            return size == 0 ? 0 : size - 1;
        }

        int pitchOf(int note) {
            return pitches[note];
        }

        int lengthOf(int note) {
            return lengths[note];
        }

        int append(int pitch, int length) {
            if (size > 0) {
                // A note that was removed may have left its wish here.
                wishes[size - 1] = false;
            }
            pitches[size] = pitch;
            lengths[size] = length;
            size++;
            return size;
        }

        int dropLast() {
            size--;
            return pitches[size];
        }

        boolean replaceWish(int gap, boolean wish) {
            boolean before = wishes[gap];
            wishes[gap] = wish;
            return before;
        }

        /** To be called ahead of costsAt: notes, wishes, ornaments or the limit may differ now. */
        void weighGaps(Fingers fingers, OrnamentBook book) {
            for (int gap = 0; gap + 1 < size; gap++) {
                int behind = pitches[gap + 1];
                book.weigh(fingers, pitches[gap], lengths[gap], behind, wishes[gap], gapCosts[gap]);
            }
        }

        int[] costsAt(int gap) {
            return gapCosts[gap];
        }
    }

    /**
     * The least costs of the choices for a row of gaps: for each option those of the choices that
     * have it at the outermost gap, the one at which the row goes on growing.
     */
    private static final class Leasts {
        private final int[] costs;

        Leasts() {
            costs = new int[OPTIONS];
        }

        /** A row without gaps is like one with an empty gap that costs nothing. */
        void startRow() {
            Arrays.fill(costs, NO_WAY);
            costs[NONE] = 0;
        }

        /** Becomes what the row has after one more gap; the row may be this one itself. */
        void growFrom(Leasts row, int[] gapCosts) {
            int first = row.firstLeastBeside(NONE);
            int least = row.costs[first];
            int leastBesideFirst = row.costs[row.firstLeastBeside(first)];
            for (int option = 0; option < OPTIONS; option++) {
                int rest = option == first ? leastBesideFirst : least;
                costs[option] = Math.min(NO_WAY, rest + gapCosts[option]);
            }
        }

        /** The first option with the least cost of those that may stand beside the one named. */
        int firstLeastBeside(int option) {
            int first = NONE;
            for (int other = NONE + 1; other < OPTIONS; other++) {
                if (other != option && costs[other] < costs[first]) {
                    first = other;
                }
            }
            return first;
        }

        int leastOfAll() {
            return costs[firstLeastBeside(NONE)];
        }
    }

    /** Looks through the choices for one tune, whose gaps have been weighed. */
    private static final class TuneChoices {
        // The place i is for the row from the gap i to the last one.
        private final Leasts[] rows;
        private final Leasts empties;
        private final int[] emptyCosts;
        private final int[] counts;

        TuneChoices() {
            rows = new Leasts[MOST_GAPS + 1];
            for (int i = 0; i <= MOST_GAPS; i++) {
                rows[i] = new Leasts();
            }
            empties = new Leasts();
            emptyCosts = new int[OPTIONS];
            counts = new int[OPTIONS];
        }

        /** Returns the least cost, NO_WAY if there is no choice; to be called ahead of firstAt. */
        int solveFor(Tune tune) {
            rows[tune.gaps()].startRow();
            for (int gap = tune.gaps() - 1; gap >= 0; gap--) {
                rows[gap].growFrom(rows[gap + 1], tune.costsAt(gap));
            }
            return rows[0].leastOfAll();
        }

        /** The option at a gap of the first choice with the least cost. */
        int firstAt(int gap) {
            int option = NONE;
            for (int i = 0; i <= gap; i++) {
                option = rows[i].firstLeastBeside(option);
            }
            return option;
        }

        int fewestEmptyGaps(Tune tune) {
            empties.startRow();
            for (int gap = 0; gap < tune.gaps(); gap++) {
                int[] costs = tune.costsAt(gap);
                for (int option = 0; option < OPTIONS; option++) {
                    int empty = option == NONE ? 1 : 0;
                    emptyCosts[option] = costs[option] < NO_WAY ? empty : NO_WAY;
                }
                empties.growFrom(empties, emptyCosts);
            }
            return empties.leastOfAll();
        }

        int countFor(Tune tune) {
            Arrays.fill(counts, 0);
            counts[NONE] = 1;
            int all = 1;
            for (int gap = 0; gap < tune.gaps(); gap++) {
                all = countWithGap(tune.costsAt(gap), all);
            }
            return all;
        }

        /** Counts one gap further: for each option the choices that end with it, and all. */
        private int countWithGap(int[] costs, int allBefore) {
            int all = 0;
            for (int option = 0; option < OPTIONS; option++) {
                int repeats = option == NONE ? 0 : counts[option];
                counts[option] = costs[option] < NO_WAY ? allBefore - repeats : 0;
                all += counts[option];
            }
            return all;
        }
    }

    /** Looks through the orders of the tunes that have notes; all their gaps have been weighed. */
    private static final class SetSearch {
        // The place a * TUNES + b is for the gap between the tune a and the tune b behind it.
        private final int[][] joinCosts;
        private final Leasts row;
        private final int[] order;
        private final int[] best;
        private int size;
        private int leastCost;

        SetSearch() {
            joinCosts = new int[TUNES * TUNES][OPTIONS];
            row = new Leasts();
            order = new int[TUNES];
            best = new int[TUNES];
        }

        int size() {
            return size;
        }

        int leastCost() {
            return leastCost;
        }

        int bestAt(int place) {
            return best[place];
        }

        void weighJoins(Tune[] tunes, Fingers fingers, OrnamentBook book) {
            for (int a = 0; a < TUNES; a++) {
                int last = tunes[a].size() - 1;
                for (int b = 0; b < TUNES; b++) {
                    if (last >= 0 && tunes[b].size() > 0) {
                        int before = tunes[a].pitchOf(last);
                        int length = tunes[a].lengthOf(last);
                        int behind = tunes[b].pitchOf(0);
                        int[] costs = joinCosts[a * TUNES + b];
                        book.weigh(fingers, before, length, behind, false, costs);
                    }
                }
            }
        }

        /** Returns for how many orders there is a choice. */
        int tryAllOrders(Tune[] tunes) {
            startOrder(tunes);
            leastCost = NO_WAY;
            int possible = 0;
            boolean more = true;
            for (int i = 0; more && i < MOST_ORDERS; i++) {
                int cost = costOfOrder(tunes);
                if (cost < NO_WAY) {
                    possible++;
                    keepIfLess(cost);
                }
                more = goToNextOrder();
            }
            return possible;
        }

        private void startOrder(Tune[] tunes) {
            size = 0;
            for (int t = 0; t < TUNES; t++) {
                if (tunes[t].size() > 0) {
                    order[size] = t;
                    size++;
                }
            }
        }

        private void keepIfLess(int cost) {
            // The orders come with the lower numbers first: of equal costs the first one stays.
            if (cost < leastCost) {
                leastCost = cost;
                System.arraycopy(order, 0, best, 0, size);
            }
        }

        private int costOfOrder(Tune[] tunes) {
            row.startRow();
            for (int place = 0; place < size; place++) {
                Tune tune = tunes[order[place]];
                if (place > 0) {
                    row.growFrom(row, joinCosts[order[place - 1] * TUNES + order[place]]);
                }
                for (int gap = 0; gap < tune.gaps(); gap++) {
                    row.growFrom(row, tune.costsAt(gap));
                }
            }
            return row.leastOfAll();
        }

        /** Goes to the order that comes next, lower numbers first; false if this was the last. */
        private boolean goToNextOrder() {
            int turn = size - 2;
            while (turn >= 0 && order[turn] > order[turn + 1]) {
                turn--;
            }
            if (turn < 0) {
                return false;
            }
            int next = size - 1;
            while (next > turn && order[next] < order[turn]) {
                next--;
            }
            exchange(turn, next);
            int low = turn + 1;
            for (int high = size - 1; low < high; high--) {
                exchange(low, high);
                low++;
            }
            return true;
        }

        private void exchange(int a, int b) {
            int kept = order[a];
            order[a] = order[b];
            order[b] = kept;
        }
    }
}
