import java.util.Arrays;

/**
 * A bench for reeds: they are filed, laid into the slots of a plate with the
 * fewest strokes, made into plates, and all of it can be undone.
 */
public final class ReedBench {
    public static final int NONE = -1;

    private static final int REEDS = 12;
    private static final int SLOTS = 8;
    private static final int PAIRS = 4;
    private static final int KEPT = 6;
    private static final int REED_SETS = 1 << REEDS;

    private static final int MOST_PITCH = 9999;
    private static final int MOST_THICKNESS = 20;
    private static final int MOST_TIP = 20;
    private static final int MOST_RISE = 20;
    private static final int MOST_OFF = 50;
    private static final int MOST_KEY = 8000;
    private static final int MOST_BEAT = 100;
    private static final int KINDS = 3;

    private static final int FREE = 0;
    private static final int SET = 1;
    private static final int SCRAPPED = 2;

    private static final int NO_PITCH = NONE - 99999;
    private static final int NO_LOOK = NONE - 1000;

    /** Stands for "no way" wherever the least of several numbers is sought. */
    private static final int FAR = 1 << 28;

    /** The three tunings, one after the other, SLOTS pitches above the key each. */
    private static final int[] ABOVE_KEY = {
        0, 200, 400, 500, 700, 900, 1100, 1200,
        0, 204, 386, 498, 702, 884, 1088, 1200,
        0, 0, 400, 400, 700, 700, 1200, 1200
    };

    private final State now = new State();
    private final History history = new History();
    private final Works works = new Works();
    private final Plan plan = new Plan();

    public ReedBench() {
    }

    public int reed(int pitch, int thickness, int tip) {
        boolean can = within(pitch, 0, MOST_PITCH)
            && within(thickness, 1, MOST_THICKNESS) && within(tip, 0, MOST_TIP);
        if (!can || now.came >= REEDS) {
            return NONE;
        }
        remember();
        int r = now.came;
        now.reeds[r].begin(pitch, thickness, tip);
        now.came = r + 1;
        return r;
    }

    public boolean scrap(int r) {
        if (!now.isFree(r)) {
            return false;
        }
        remember();
        now.reeds[r].place = SCRAPPED;
        return true;
    }

    public boolean rates(int rise, int off) {
        if (!within(rise, 1, MOST_RISE) || !within(off, 0, MOST_OFF)) {
            return false;
        }
        remember();
        now.rise = rise;
        now.off = off;
        return true;
    }

    public boolean want(int s, int pitch) {
        if (!within(s, 0, SLOTS - 1) || !within(pitch, NONE, MOST_PITCH)) {
            return false;
        }
        remember();
        now.wanted[s] = pitch;
        return true;
    }

    public boolean tuning(int kind, int key) {
        if (!within(kind, 0, KINDS - 1) || !within(key, 0, MOST_KEY)) {
            return false;
        }
        remember();
        for (int s = 0; s < SLOTS; s++) {
            now.wanted[s] = key + ABOVE_KEY[kind * SLOTS + s];
        }
        return true;
    }

    public boolean beat(int k, int low, int high) {
        boolean can = within(k, 0, PAIRS - 1)
            && within(low, -MOST_BEAT, MOST_BEAT) && within(high, -MOST_BEAT, MOST_BEAT);
        if (!can) {
            return false;
        }
        remember();
        now.low[k] = low;
        now.high[k] = high;
        return true;
    }

    public int file(int r, int i, int j) {
        if (!now.isFree(r) || !now.reeds[r].bears(i, j)) {
            return NO_PITCH;
        }
        remember();
        now.reeds[r].takeStrokes(i, j, now.rise);
        return now.reeds[r].pitch;
    }

    public int look(int what) {
        if (within(what, 10, 10 + SLOTS - 1)) {
            return now.wanted[what - 10];
        }
        if (within(what, 20, 20 + 2 * PAIRS - 1)) {
            return beatBound(what - 20);
        }
        switch (what) {
            case 0: return now.came;
            case 1: return Integer.bitCount(now.freeReeds());
            case 2: return now.rise;
            case 3: return now.off;
            case 4: return now.wantedSlots();
            case 5: return now.made;
            default: return NO_LOOK;
        }
    }

    public int of(int r, int what) {
        if (!now.hasReed(r)) {
            return NO_PITCH;
        }
        Reed reed = now.reeds[r];
        switch (what) {
            case 0: return reed.pitch;
            case 1: return reed.thickness;
            case 2: return reed.tip;
            case 3: return reed.place;
            case 4: return reed.plate;
            case 5: return reed.slot;
            case 6: return reed.strokes;
            default: return NO_PITCH;
        }
    }

    public int work(int r, int s, int what) {
        if (!now.hasReed(r) || !now.isWanted(s)) {
            return NONE;
        }
        int key = works.slotKey(now, r, s);
        if (key == FAR) {
            return NONE;
        }
        switch (what) {
            case 0: return Works.strokesOf(key);
            case 1: return Works.tipOf(key);
            case 2: return Works.rootOf(key);
            default: return NONE;
        }
    }

    public int pairWork(int r, int q, int k, int what) {
        if (!now.hasReed(r) || !now.hasReed(q) || r == q || !now.isWantedPair(k)) {
            return NONE;
        }
        int key = works.pairKey(now, r, q, k);
        if (key == FAR) {
            return NONE;
        }
        switch (what) {
            case 0: return Works.pairStrokesOf(key);
            case 1: return Works.firstTipOf(key);
            case 2: return Works.firstRootOf(key);
            case 3: return Works.otherTipOf(key);
            case 4: return Works.otherRootOf(key);
            default: return NONE;
        }
    }

    public int best(int what) {
        plan.settle(now, works);
        if (what == 0) {
            return plan.exists() ? plan.strokes : NONE;
        }
        if (within(what, 10, 10 + SLOTS - 1)) {
            return plan.chosen[what - 10];
        }
        return NONE;
    }

    public int lays() {
        plan.settle(now, works);
        return plan.count;
    }

    public int make() {
        plan.settle(now, works);
        if (!plan.exists() || now.wantedSlots() == 0) {
            return NONE;
        }
        history.keep(now);
        plan.carryOut(now, works);
        plan.forget();
        return now.made - 1;
    }

    public int lacks() {
        plan.settle(now, works);
        return plan.fewestLeftOut(now);
    }

    public boolean undo() {
        if (!history.takeBack(now)) {
            return false;
        }
        plan.forget();
        return true;
    }

    private static boolean within(int x, int least, int most) {
        return x >= least && x <= most;
    }

    /** To be called ahead of every change, and only if the change will be done. */
    private void remember() {
        history.keep(now);
        plan.forget();
    }

    private int beatBound(int place) {
        int k = place / 2;
        if (!now.isBound(k)) {
            return NO_LOOK;
        }
        return place % 2 == 0 ? now.low[k] : now.high[k];
    }

    private static final class Reed {
        private int pitch;
        private int thickness = 1;
        private int tip;
        private int place = FREE;
        private int plate = NONE;
        private int slot = NONE;
        private int strokes;

        private void begin(int newPitch, int newThickness, int newTip) {
            pitch = newPitch;
            thickness = newThickness;
            tip = newTip;
            place = FREE;
            plate = NONE;
            slot = NONE;
            strokes = 0;
        }

        private void copyFrom(Reed other) {
            pitch = other.pitch;
            thickness = other.thickness;
            tip = other.tip;
            place = other.place;
            plate = other.plate;
            slot = other.slot;
            strokes = other.strokes;
        }

        private boolean bears(int i, int j) {
            return within(i, 0, tip) && within(j, 0, thickness - 1);
        }

        private void takeStrokes(int i, int j, int rise) {
            pitch += i * rise;
            tip -= i;
            for (int stroke = 0; stroke < j; stroke++) {
                pitch -= thickness;
                thickness--;
            }
            strokes += i + j;
        }

        private void putInto(int newPlate, int newSlot) {
            place = SET;
            plate = newPlate;
            slot = newSlot;
        }
    }

    /** All that undo() brings back. */
    private static final class State {
        private final Reed[] reeds = new Reed[REEDS];
        private final int[] wanted = new int[SLOTS];
        /** A pair need not beat where low is above high. */
        private final int[] low = new int[PAIRS];
        private final int[] high = new int[PAIRS];
        private int came;
        private int rise = 6;
        private int off = 5;
        private int made;

        private State() {
            for (int r = 0; r < REEDS; r++) {
                reeds[r] = new Reed();
            }
            Arrays.fill(wanted, NONE);
            Arrays.fill(low, 1);
        }

        private void copyFrom(State other) {
            for (int r = 0; r < REEDS; r++) {
                reeds[r].copyFrom(other.reeds[r]);
            }
            System.arraycopy(other.wanted, 0, wanted, 0, SLOTS);
            System.arraycopy(other.low, 0, low, 0, PAIRS);
            System.arraycopy(other.high, 0, high, 0, PAIRS);
            came = other.came;
            rise = other.rise;
            off = other.off;
            made = other.made;
        }

        private boolean hasReed(int r) {
            return r >= 0 && r < came && r < REEDS;
        }

        private boolean isFree(int r) {
            return hasReed(r) && reeds[r].place == FREE;
        }

        private boolean isWanted(int s) {
            return s >= 0 && s < SLOTS && wanted[s] != NONE;
        }

        private boolean isWantedPair(int k) {
            return k >= 0 && k < PAIRS && isWanted(2 * k) && isWanted(2 * k + 1);
        }

        private boolean isBound(int k) {
            return k >= 0 && k < PAIRS && low[k] <= high[k];
        }

        private boolean mustBeat(int k) {
            return isBound(k) && isWantedPair(k);
        }

        private int freeReeds() {
            int set = 0;
            for (int r = 0; r < REEDS; r++) {
                if (isFree(r)) {
                    set |= 1 << r;
                }
            }
            return set;
        }

        private int wantedSlots() {
            int set = 0;
            for (int s = 0; s < SLOTS; s++) {
                if (isWanted(s)) {
                    set |= 1 << s;
                }
            }
            return set;
        }
    }

    /** The states ahead of the latest calls, in a ring whose oldest one is overwritten. */
    private static final class History {
        private final State[] ring = new State[KEPT];
        private int size;
        private int next;

        private History() {
            for (int x = 0; x < KEPT; x++) {
                ring[x] = new State();
            }
        }

        private void keep(State state) {
            ring[next].copyFrom(state);
            next = next == KEPT - 1 ? 0 : next + 1;
            size = Math.min(size + 1, KEPT);
        }

        private boolean takeBack(State state) {
            if (size == 0) {
                return false;
            }
            next = next == 0 ? KEPT - 1 : next - 1;
            size--;
            state.copyFrom(ring[next]);
            return true;
        }
    }

    /**
     * Seeks WORK. Ways to file are packed into keys whose order is the order
     * in which the document prefers them, so that the least key is the WORK.
     */
    private static final class Works {
        private static final int WIDTH = 2 * MOST_OFF + 1;

        /** By pitch above the lowest that will do: the least key of the reed in the first slot. */
        private final int[][] first = new int[REEDS][WIDTH];
        private final int[] near = new int[WIDTH];
        /** By the first reed's pitch: the least key of the other reed that goes with it. */
        private final int[] partner = new int[WIDTH];

        private static int keyOf(int i, int j) {
            return (i + j) * 32 + i;
        }

        private static int strokesOf(int key) {
            return key / 32;
        }

        private static int tipOf(int key) {
            return key % 32;
        }

        private static int rootOf(int key) {
            return key / 32 - key % 32;
        }

        private static int joinedKey(int one, int other) {
            int key = strokesOf(one) + strokesOf(other);
            key = key * 32 + tipOf(one);
            key = key * 32 + rootOf(one);
            return key * 32 + tipOf(other);
        }

        private static int pairStrokesOf(int key) {
            return key >> 15;
        }

        private static int firstTipOf(int key) {
            return (key >> 10) & 31;
        }

        private static int firstRootOf(int key) {
            return (key >> 5) & 31;
        }

        private static int otherTipOf(int key) {
            return key & 31;
        }

        private static int otherRootOf(int key) {
            return pairStrokesOf(key) - firstTipOf(key) - firstRootOf(key) - otherTipOf(key);
        }

        /** The key of the WORK, or FAR. The reed has come and the slot is wanted. */
        private int slotKey(State state, int r, int s) {
            fillNear(state, r, s, near);
            int least = FAR;
            for (int x = 0; x <= 2 * state.off; x++) {
                least = Math.min(least, near[x]);
            }
            return least;
        }

        /** The key of the WORK for two, or FAR. Both reeds have come and both slots are wanted. */
        private int pairKey(State state, int r, int q, int k) {
            fillFirst(state, r, k);
            fillPartner(state, q, k);
            return joinWithPartner(state, r);
        }

        private void fillFirst(State state, int r, int k) {
            fillNear(state, r, 2 * k, first[r]);
        }

        private void fillPartner(State state, int q, int k) {
            fillNear(state, q, 2 * k + 1, near);
            int widest = 2 * state.off;
            int apart = state.wanted[2 * k + 1] - state.wanted[2 * k];
            boolean bound = state.isBound(k);
            int place = NONE;
            for (int x = 0; x <= widest; x++) {
                int from = bound ? Math.max(0, x + state.low[k] - apart) : 0;
                int to = bound ? Math.min(widest, x + state.high[k] - apart) : widest;
                place = leastPlace(near, from, to, place);
                partner[x] = place == NONE ? FAR : near[place];
            }
        }

        /**
         * Where the least of a window is, NONE if the window is empty. The window's ends
         * go up by one at most from call to call, so all of it is looked at only when
         * the place before has fallen out of it.
         */
        private static int leastPlace(int[] row, int from, int to, int before) {
            boolean stays = before >= from;
            int place = stays ? before : NONE;
            for (int x = stays ? to : from; x <= to; x++) {
                if (place == NONE || row[x] <= row[place]) {
                    place = x;
                }
            }
            return place;
        }

        /** Takes the rows that fillFirst and fillPartner have left. */
        private int joinWithPartner(State state, int r) {
            int least = FAR;
            for (int x = 0; x <= 2 * state.off; x++) {
                if (first[r][x] != FAR && partner[x] != FAR) {
                    least = Math.min(least, joinedKey(first[r][x], partner[x]));
                }
            }
            return least;
        }

        private static void fillNear(State state, int r, int s, int[] row) {
            Reed reed = state.reeds[r];
            int lowest = state.wanted[s] - state.off;
            int widest = 2 * state.off;
            for (int x = 0; x <= widest; x++) {
                row[x] = FAR;
            }
            for (int i = 0; i <= reed.tip; i++) {
                int above = reed.pitch + i * state.rise - lowest;
                for (int j = 0; j < reed.thickness && above >= 0; j++) {
                    if (above <= widest) {
                        row[above] = Math.min(row[above], keyOf(i, j));
                    }
                    above -= reed.thickness - j;
                }
            }
        }
    }

    /** The STROKES of every FREE reed, or two, in every wanted slot, or pair that must beat. */
    private static final class Costs {
        private final int[] slotCosts = new int[SLOTS * REEDS];
        private final int[] pairCosts = new int[PAIRS * REEDS * REEDS];

        /** FAR if the reed can't do it. */
        private int ofSlot(int s, int r) {
            return slotCosts[s * REEDS + r];
        }

        /** FAR if the two can't do it. */
        private int ofPair(int k, int r, int q) {
            return pairCosts[(k * REEDS + r) * REEDS + q];
        }

        private void reckon(State state, Works works) {
            Arrays.fill(slotCosts, FAR);
            Arrays.fill(pairCosts, FAR);
            for (int s = 0; s < SLOTS; s++) {
                if (state.isWanted(s)) {
                    reckonSlot(state, works, s);
                }
            }
            for (int k = 0; k < PAIRS; k++) {
                if (state.mustBeat(k)) {
                    reckonPair(state, works, k);
                }
            }
        }

        private void reckonSlot(State state, Works works, int s) {
            for (int r = 0; r < REEDS; r++) {
                int key = state.isFree(r) ? works.slotKey(state, r, s) : FAR;
                if (key != FAR) {
                    slotCosts[s * REEDS + r] = Works.strokesOf(key);
                }
            }
        }

        private void reckonPair(State state, Works works, int k) {
            // Who can't do the slot alone can't do it in the pair either.
            for (int r = 0; r < REEDS; r++) {
                if (ofSlot(2 * k, r) != FAR) {
                    works.fillFirst(state, r, k);
                }
            }
            for (int q = 0; q < REEDS; q++) {
                if (ofSlot(2 * k + 1, q) != FAR) {
                    works.fillPartner(state, q, k);
                    reckonPartner(state, works, k, q);
                }
            }
        }

        private void reckonPartner(State state, Works works, int k, int q) {
            for (int r = 0; r < REEDS; r++) {
                int key = r != q && ofSlot(2 * k, r) != FAR ? works.joinWithPartner(state, r) : FAR;
                if (key != FAR) {
                    pairCosts[(k * REEDS + r) * REEDS + q] = Works.pairStrokesOf(key);
                }
            }
        }
    }

    /**
     * Seeks BEST. The wanted slots are filled in their order, so the set of
     * reeds that are used tells by its size which slot is next: one row over
     * the sets of reeds is enough for all slots.
     */
    private static final class Plan {
        private final Costs costs = new Costs();
        /** By the reeds used: the fewest STROKES for the slots that are still to be filled. */
        private final int[] fewest = new int[REED_SETS];
        private final int[] ways = new int[REED_SETS];
        private final int[] order = new int[SLOTS];
        private final int[] chosen = new int[SLOTS];
        private int ordered;
        private int strokes;
        private int count;
        private boolean known;

        private void forget() {
            known = false;
        }

        private void settle(State state, Works works) {
            if (known) {
                return;
            }
            known = true;
            costs.reckon(state, works);
            putInOrder(state);
            fillRows(state);
            strokes = fewest[0];
            count = ways[0];
            Arrays.fill(chosen, NONE);
            if (exists()) {
                choose(state);
            }
        }

        private boolean exists() {
            return strokes < FAR;
        }

        private void putInOrder(State state) {
            ordered = 0;
            for (int s = 0; s < SLOTS; s++) {
                if (state.isWanted(s)) {
                    order[ordered] = s;
                    ordered++;
                }
            }
        }

        private void fillRows(State state) {
            int free = state.freeReeds();
            for (int used = free; used >= 0; used--) {
                int filled = Integer.bitCount(used);
                if ((used & ~free) == 0 && filled <= ordered) {
                    fewest[used] = filled == ordered ? 0 : FAR;
                    ways[used] = filled == ordered ? 1 : 0;
                    if (filled < ordered) {
                        fillNext(state, used, free & ~used, order[filled]);
                    }
                }
            }
        }

        private void fillNext(State state, int used, int left, int s) {
            if (!state.mustBeat(s / 2)) {
                fillBySlot(used, left, s);
            } else if (s % 2 == 0) {
                fillByPair(used, left, s / 2);
            }
        }

        private void fillBySlot(int used, int left, int s) {
            for (int r = 0; r < REEDS; r++) {
                if ((left >> r & 1) == 1 && costs.ofSlot(s, r) != FAR) {
                    offer(used, used | 1 << r, costs.ofSlot(s, r));
                }
            }
        }

        private void fillByPair(int used, int left, int k) {
            for (int r = 0; r < REEDS; r++) {
                for (int q = 0; q < REEDS && (left >> r & 1) == 1; q++) {
                    if ((left >> q & 1) == 1 && costs.ofPair(k, r, q) != FAR) {
                        offer(used, used | 1 << r | 1 << q, costs.ofPair(k, r, q));
                    }
                }
            }
        }

        private void offer(int used, int then, int cost) {
            if (fewest[then] == FAR) {
                return;
            }
            int sum = cost + fewest[then];
            if (sum < fewest[used]) {
                fewest[used] = sum;
                ways[used] = 0;
            }
            if (sum == fewest[used]) {
                ways[used] += ways[then];
            }
        }

        private void choose(State state) {
            int used = 0;
            for (int s = 0; s < SLOTS; s++) {
                if (state.mustBeat(s / 2)) {
                    used = s % 2 == 0 ? choosePair(used, s / 2) : used;
                } else if (state.isWanted(s)) {
                    used = chooseSlot(used, s);
                }
            }
        }

        /** The least reed that keeps to the fewest strokes; answers the reeds used then. */
        private int chooseSlot(int used, int s) {
            for (int r = 0; r < REEDS; r++) {
                if ((used >> r & 1) == 0 && leads(used, used | 1 << r, costs.ofSlot(s, r))) {
                    chosen[s] = r;
                    return used | 1 << r;
                }
            }
            return used;
        }

        private int choosePair(int used, int k) {
            for (int r = 0; r < REEDS; r++) {
                for (int q = 0; q < REEDS; q++) {
                    int both = 1 << r | 1 << q;
                    if ((used & both) == 0 && leads(used, used | both, costs.ofPair(k, r, q))) {
                        chosen[2 * k] = r;
                        chosen[2 * k + 1] = q;
                        return used | both;
                    }
                }
            }
            return used;
        }

        private boolean leads(int used, int then, int cost) {
            return cost != FAR && fewest[then] != FAR && cost + fewest[then] == fewest[used];
        }

        /** Only behind settle, and if a LAY exists. */
        private void carryOut(State state, Works works) {
            for (int k = 0; k < PAIRS; k++) {
                if (state.mustBeat(k)) {
                    setPair(state, works, k);
                } else {
                    setSlot(state, works, 2 * k);
                    setSlot(state, works, 2 * k + 1);
                }
            }
            Arrays.fill(state.wanted, NONE);
            state.made++;
        }

        private void setSlot(State state, Works works, int s) {
            int r = chosen[s];
            if (!state.isFree(r) || !state.isWanted(s)) {
                return;
            }
            int key = works.slotKey(state, r, s);
            state.reeds[r].takeStrokes(Works.tipOf(key), Works.rootOf(key), state.rise);
            state.reeds[r].putInto(state.made, s);
        }

        private void setPair(State state, Works works, int k) {
            int r = chosen[2 * k];
            int q = chosen[2 * k + 1];
            if (!state.isFree(r) || !state.isFree(q)) {
                return;
            }
            int key = works.pairKey(state, r, q, k);
            state.reeds[r].takeStrokes(Works.firstTipOf(key), Works.firstRootOf(key), state.rise);
            state.reeds[q].takeStrokes(Works.otherTipOf(key), Works.otherRootOf(key), state.rise);
            state.reeds[r].putInto(state.made, 2 * k);
            state.reeds[q].putInto(state.made, 2 * k + 1);
        }

        /** Only behind settle. The row of BEST is no longer needed then and is used again. */
        private int fewestLeftOut(State state) {
            return exists() ? 0 : LeftOut.seek(state, costs, fewest);
        }
    }

    /**
     * Seeks the fewest slots to leave out. A slot left out weighs 256 and its
     * own bit: the least sum has the fewest slots, and of those the least set.
     */
    private static final class LeftOut {
        private static final int ONE_SLOT = 1 << SLOTS;

        /** The row lightest is written over; it needs REED_SETS places. */
        private static int seek(State state, Costs costs, int[] lightest) {
            int free = state.freeReeds();
            Arrays.fill(lightest, FAR);
            lightest[0] = 0;
            for (int k = 0; k < PAIRS; k++) {
                if (state.mustBeat(k)) {
                    addPair(costs, lightest, free, k);
                }
                for (int s = 2 * k; s <= 2 * k + 1; s++) {
                    if (state.isWanted(s) && !state.mustBeat(k)) {
                        addSlot(costs, lightest, free, s);
                    }
                }
            }
            int least = FAR;
            for (int used = 0; used <= free; used++) {
                least = Math.min(least, lightest[used]);
            }
            return least % ONE_SLOT;
        }

        private static int weightOf(int s) {
            return ONE_SLOT + (1 << s);
        }

        private static void addSlot(Costs costs, int[] lightest, int free, int s) {
            // From the largest set down, for each looks at lesser sets as they were before.
            for (int used = free; used >= 0; used--) {
                if ((used & ~free) == 0 && Integer.bitCount(used) <= s + 1) {
                    int least = lightest[used] + weightOf(s);
                    for (int r = 0; r < REEDS; r++) {
                        if ((used >> r & 1) == 1 && costs.ofSlot(s, r) != FAR) {
                            least = Math.min(least, lightest[used ^ 1 << r]);
                        }
                    }
                    lightest[used] = Math.min(least, FAR);
                }
            }
        }

        private static void addPair(Costs costs, int[] lightest, int free, int k) {
            int bothOut = weightOf(2 * k) + weightOf(2 * k + 1);
            for (int used = free; used >= 0; used--) {
                if ((used & ~free) == 0 && Integer.bitCount(used) <= 2 * k + 2) {
                    int least = lightest[used] + bothOut;
                    for (int r = 0; r < REEDS; r++) {
                        if ((used >> r & 1) == 1) {
                            least = Math.min(least, withReed(costs, lightest, used ^ 1 << r, k, r));
                        }
                    }
                    lightest[used] = Math.min(least, FAR);
                }
            }
        }

        /** The lightest with reed r in the pair: alone in either slot, or first beside another. */
        private static int withReed(Costs costs, int[] lightest, int others, int k, int r) {
            int least = FAR;
            if (costs.ofSlot(2 * k, r) != FAR) {
                least = Math.min(least, lightest[others] + weightOf(2 * k + 1));
            }
            if (costs.ofSlot(2 * k + 1, r) != FAR) {
                least = Math.min(least, lightest[others] + weightOf(2 * k));
            }
            for (int q = 0; q < REEDS; q++) {
                if ((others >> q & 1) == 1 && costs.ofPair(k, r, q) != FAR) {
                    least = Math.min(least, lightest[others ^ 1 << q]);
                }
            }
            return least;
        }
    }
}
