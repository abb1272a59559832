import java.util.ArrayDeque;
import java.util.ArrayList;
import java.util.Arrays;
import java.util.Deque;
import java.util.List;

// Long runs of calls, each answer compared with that of a plain model that tries everything.
public final class ModelTests {
    private static final int NONE = -1;
    private static final int[][] TUNINGS = {
        {0, 200, 400, 500, 700, 900, 1100, 1200},
        {0, 204, 386, 498, 702, 884, 1088, 1200},
        {0, 0, 400, 400, 700, 700, 1200, 1200}};
    private static int wrong = 0;
    private static long seed;
    /** Of the tuned run that goes on; no key in the other runs. */
    private static int kind = 0;
    private static int key = NONE;

    /** Reeds are rows: pitch, thickness, tip, place, plate, slot, strokes. */
    private static final class State {
        int[][] reeds = new int[0][];
        int rise = 6;
        int off = 5;
        int made = 0;
        int[] wanted = {-1, -1, -1, -1, -1, -1, -1, -1};
        int[][] beats = new int[4][];

        State copy() {
            State c = new State();
            c.reeds = new int[reeds.length][];
            for (int r = 0; r < reeds.length; r++) {
                c.reeds[r] = reeds[r].clone();
            }
            c.rise = rise;
            c.off = off;
            c.made = made;
            c.wanted = wanted.clone();
            c.beats = beats.clone();
            return c;
        }
    }

    private static final class Model {
        State now = new State();
        Deque<State> past = new ArrayDeque<>();
        int[][] slotMemo = new int[8][];
        int[][][] pairMemo = new int[4][][];
        int bestStrokes;
        int bestCount;
        int[] bestReeds;
        boolean seeking;

        void forget() {
            slotMemo = new int[8][];
            pairMemo = new int[4][][];
        }

        void changing() {
            forget();
            past.addLast(now.copy());
            if (past.size() > 6) {
                past.removeFirst();
            }
        }

        boolean free(int r) {
            return r >= 0 && r < now.reeds.length && now.reeds[r][3] == 0;
        }

        int reed(int pitch, int thickness, int tip) {
            if (pitch < 0 || pitch > 9999 || thickness < 1 || thickness > 20 || tip < 0 || tip > 20
                || now.reeds.length == 12) {
                return NONE;
            }
            changing();
            now.reeds = Arrays.copyOf(now.reeds, now.reeds.length + 1);
            now.reeds[now.reeds.length - 1] = new int[] {pitch, thickness, tip, 0, -1, -1, 0};
            return now.reeds.length - 1;
        }

        boolean scrap(int r) {
            if (!free(r)) {
                return false;
            }
            changing();
            now.reeds[r][3] = 2;
            return true;
        }

        boolean rates(int rise, int off) {
            if (rise < 1 || rise > 20 || off < 0 || off > 50) {
                return false;
            }
            changing();
            now.rise = rise;
            now.off = off;
            return true;
        }

        boolean want(int s, int pitch) {
            if (s < 0 || s > 7 || pitch < -1 || pitch > 9999) {
                return false;
            }
            changing();
            now.wanted[s] = pitch;
            return true;
        }

        boolean tuning(int kind, int key) {
            if (kind < 0 || kind > 2 || key < 0 || key > 8000) {
                return false;
            }
            changing();
            for (int s = 0; s < 8; s++) {
                now.wanted[s] = key + TUNINGS[kind][s];
            }
            return true;
        }

        boolean beat(int k, int low, int high) {
            if (k < 0 || k > 3 || low < -100 || low > 100 || high < -100 || high > 100) {
                return false;
            }
            changing();
            now.beats[k] = low > high ? null : new int[] {low, high};
            return true;
        }

        /** The pitch behind so many strokes, one by one, the root first; null if it can't be. */
        Integer pitchBehind(int r, int i, int j) {
            int pitch = now.reeds[r][0];
            int t = now.reeds[r][1];
            int q = now.reeds[r][2];
            if (i < 0 || j < 0) {
                return null;
            }
            for (int n = 0; n < j; n++) {
                if (t == 1) {
                    return null;
                }
                pitch -= t;
                t--;
            }
            for (int n = 0; n < i; n++) {
                if (q == 0) {
                    return null;
                }
                pitch += now.rise;
                q--;
            }
            return pitch;
        }

        void strike(int r, int i, int j) {
            now.reeds[r][0] = pitchBehind(r, i, j);
            now.reeds[r][1] -= j;
            now.reeds[r][2] -= i;
            now.reeds[r][6] += i + j;
        }

        int file(int r, int i, int j) {
            if (!free(r) || pitchBehind(r, i, j) == null) {
                return NONE - 99999;
            }
            changing();
            strike(r, i, j);
            return now.reeds[r][0];
        }

        int look(int what) {
            int free = 0;
            int set = 0;
            for (int r = 0; r < now.reeds.length; r++) {
                free += free(r) ? 1 : 0;
            }
            for (int s = 0; s < 8; s++) {
                set += now.wanted[s] >= 0 ? 1 << s : 0;
            }
            int[] plain = {now.reeds.length, free, now.rise, now.off, set, now.made};
            if (what >= 0 && what < 6) {
                return plain[what];
            }
            if (what >= 10 && what < 18) {
                return now.wanted[what - 10];
            }
            if (what >= 20 && what < 28 && now.beats[(what - 20) / 2] != null) {
                return now.beats[(what - 20) / 2][what % 2];
            }
            return NONE - 1000;
        }

        int of(int r, int what) {
            if (r < 0 || r >= now.reeds.length || what < 0 || what > 6) {
                return NONE - 99999;
            }
            return now.reeds[r][what];
        }

        /** All ways to file a reed that bring it within off: {pitch, tip, root} each. */
        List<int[]> nearWays(int r, int s) {
            List<int[]> ways = new ArrayList<>();
            for (int i = 0; i <= now.reeds[r][2]; i++) {
                for (int j = 0; j < now.reeds[r][1]; j++) {
                    Integer pitch = pitchBehind(r, i, j);
                    if (pitch != null && Math.abs(pitch - now.wanted[s]) <= now.off) {
                        ways.add(new int[] {pitch, i, j});
                    }
                }
            }
            return ways;
        }

        /** {strokes, tip, root}, or null. */
        int[] workOf(int r, int s) {
            if (r < 0 || r >= now.reeds.length || s < 0 || s > 7 || now.wanted[s] < 0) {
                return null;
            }
            int[] best = null;
            for (int[] way : nearWays(r, s)) {
                best = lesser(best, new int[] {way[1] + way[2], way[1], way[2]});
            }
            return best;
        }

        /** {strokes, first's tip, first's root, other's tip, other's root}, or null. */
        int[] pairWorkOf(int r, int q, int k) {
            int n = now.reeds.length;
            if (r < 0 || r >= n || q < 0 || q >= n || r == q || k < 0 || k > 3
                || now.wanted[2 * k] < 0 || now.wanted[2 * k + 1] < 0) {
                return null;
            }
            int[] beats = now.beats[k];
            List<int[]> others = nearWays(q, 2 * k + 1);
            int[] best = null;
            for (int[] one : nearWays(r, 2 * k)) {
                for (int[] other : others) {
                    int apart = other[0] - one[0];
                    if (beats == null || apart >= beats[0] && apart <= beats[1]) {
                        int strokes = one[1] + one[2] + other[1] + other[2];
                        best = lesser(best, new int[] {strokes, one[1], one[2], other[1], other[2]});
                    }
                }
            }
            return best;
        }

        static int[] lesser(int[] one, int[] other) {
            if (one == null || other == null) {
                return one == null ? other : one;
            }
            return Arrays.compare(one, other) <= 0 ? one : other;
        }

        int work(int r, int s, int what) {
            int[] w = workOf(r, s);
            return w == null || what < 0 || what > 2 ? NONE : w[what];
        }

        int pairWork(int r, int q, int k, int what) {
            int[] w = pairWorkOf(r, q, k);
            return w == null || what < 0 || what > 4 ? NONE : w[what];
        }

        boolean beating(int set, int k) {
            return now.beats[k] != null && (set >> 2 * k & 3) == 3;
        }

        int slotStrokes(int r, int s) {
            if (slotMemo[s] == null) {
                slotMemo[s] = new int[12];
                Arrays.fill(slotMemo[s], -2);
            }
            if (slotMemo[s][r] == -2) {
                int[] w = workOf(r, s);
                slotMemo[s][r] = w == null ? NONE : w[0];
            }
            return slotMemo[s][r];
        }

        int pairStrokes(int r, int q, int k) {
            if (pairMemo[k] == null) {
                pairMemo[k] = new int[12][12];
                for (int[] row : pairMemo[k]) {
                    Arrays.fill(row, -2);
                }
            }
            if (pairMemo[k][r][q] == -2) {
                int[] w = pairWorkOf(r, q, k);
                pairMemo[k][r][q] = w == null ? NONE : w[0];
            }
            return pairMemo[k][r][q];
        }

        /** All lays of a set of slots, the first ones by their reeds first. */
        void tryLays(int set, int s, int used, int strokes, int[] reeds) {
            if (seeking && bestCount > 0) {
                return;
            }
            if (s == 8) {
                if (bestCount == 0 || strokes < bestStrokes) {
                    bestStrokes = strokes;
                    bestCount = 0;
                    bestReeds = reeds.clone();
                }
                bestCount += strokes == bestStrokes ? 1 : 0;
                return;
            }
            if ((set >> s & 1) == 0) {
                tryLays(set, s + 1, used, strokes, reeds);
                return;
            }
            for (int r = 0; r < now.reeds.length; r++) {
                if (free(r) && (used >> r & 1) == 0) {
                    reeds[s] = r;
                    int more = moreStrokes(set, s, reeds);
                    if (more != NONE) {
                        tryLays(set, s + 1, used | 1 << r, strokes + more, reeds);
                    }
                    reeds[s] = NONE;
                }
            }
        }

        int moreStrokes(int set, int s, int[] reeds) {
            // Who is not within off alone is not so in a pair either.
            int alone = slotStrokes(reeds[s], s);
            if (alone == NONE || !beating(set, s / 2)) {
                return alone;
            }
            return s % 2 == 0 ? 0 : pairStrokes(reeds[s - 1], reeds[s], s / 2);
        }

        void seek(int set, boolean one) {
            bestCount = 0;
            seeking = one;
            int[] reeds = new int[8];
            Arrays.fill(reeds, NONE);
            tryLays(set, 0, 0, 0, reeds);
        }

        int best(int what) {
            seek(look(4), false);
            if (bestCount == 0) {
                return NONE;
            }
            if (what == 0) {
                return bestStrokes;
            }
            return what >= 10 && what < 18 ? bestReeds[what - 10] : NONE;
        }

        int lays() {
            seek(look(4), false);
            return bestCount;
        }

        int make() {
            int set = look(4);
            seek(set, false);
            if (set == 0 || bestCount == 0) {
                return NONE;
            }
            changing();
            for (int s = 0; s < 8; s++) {
                if ((set >> s & 1) == 1 && beating(set, s / 2) && s % 2 == 0) {
                    int[] w = pairWorkOf(bestReeds[s], bestReeds[s + 1], s / 2);
                    strike(bestReeds[s], w[1], w[2]);
                    strike(bestReeds[s + 1], w[3], w[4]);
                } else if ((set >> s & 1) == 1 && !beating(set, s / 2)) {
                    int[] w = workOf(bestReeds[s], s);
                    strike(bestReeds[s], w[1], w[2]);
                }
            }
            for (int s = 0; s < 8; s++) {
                if (bestReeds[s] != NONE) {
                    int[] reed = now.reeds[bestReeds[s]];
                    reed[3] = 1;
                    reed[4] = now.made;
                    reed[5] = s;
                }
            }
            Arrays.fill(now.wanted, NONE);
            return now.made++;
        }

        int lacks() {
            int set = look(4);
            for (int count = 0; count <= 8; count++) {
                for (int out = 0; out < 256; out++) {
                    if ((out & ~set) == 0 && Integer.bitCount(out) == count) {
                        seek(set & ~out, true);
                        if (bestCount > 0) {
                            return out;
                        }
                    }
                }
            }
            return set;
        }

        boolean undo() {
            if (past.isEmpty()) {
                return false;
            }
            forget();
            now = past.removeLast();
            return true;
        }
    }

    public static void main(String[] args) {
        int[] seen = new int[4];
        for (int run = 0; run < 200; run++) {
            seed = 77777L + run * 1000003L;
            oneRun(run, seen);
        }
        int[] tuned = new int[4];
        for (int run = 200; run < 280; run++) {
            seed = 77777L + run * 1000003L;
            tunedRun(run, tuned);
        }
        // Runs that hardly ever have a lay, or a plate, would show nothing.
        showsEnough(seen, 200);
        showsEnough(tuned, 100);
        System.out.println(wrong == 0 ? "all answers are the model's" : wrong + " answers are not the model's");
        if (wrong != 0) {
            System.exit(1);
        }
    }

    private static void showsEnough(int[] seen, int least) {
        for (int count : seen) {
            if (count < least) {
                wrong++;
                System.out.println("the runs show too little: " + Arrays.toString(seen));
                return;
            }
        }
    }

    private static int next(int bound) {
        seed = seed * 6364136223846793005L + 1442695040888963407L;
        return (int) ((seed >>> 33) % bound);
    }

    private static int between(int least, int most) {
        return least + next(most - least + 1);
    }

    private static void due(int run, String call, int got, int want) {
        if (got != want) {
            wrong++;
            if (wrong < 50) {
                System.out.println("run " + run + ": " + call + " answered " + got + ", the model " + want);
            }
        }
    }

    private static int bit(boolean b) {
        return b ? 1 : 0;
    }

    private static void oneRun(int run, int[] seen) {
        ReedBench x = new ReedBench();
        Model m = new Model();
        int mostReeds = run % 4 == 0 ? 12 : 6;
        int mostSlots = run % 4 == 0 ? 4 : 8;
        int stout = run % 7 == 0 ? 20 : 6;
        for (int n = 0; n < 150; n++) {
            change(run, x, m, mostReeds, mostSlots, stout);
            ask(run, x, m, seen);
        }
    }

    // Twelve stout reeds and eight slots, spread by a tuning so that trying everything ends soon.
    private static void tunedRun(int run, int[] seen) {
        ReedBench x = new ReedBench();
        Model m = new Model();
        kind = run % 4 == 0 ? 0 : run % 4 == 1 ? 1 : 2;
        key = between(0, 8000);
        for (int r = 0; r < 12; r++) {
            int pitch = Math.max(0, key + TUNINGS[kind][r % 8] + between(-20, 20));
            int thickness = between(1, 20);
            int tip = between(0, 20);
            due(run, "reed", x.reed(pitch, thickness, tip), m.reed(pitch, thickness, tip));
        }
        due(run, "tuning", bit(x.tuning(kind, key)), bit(m.tuning(kind, key)));
        for (int n = 0; n < 60; n++) {
            ask(run, x, m, seen);
            change(run, x, m, 12, 8, 20);
        }
        key = NONE;
    }

    private static int somePitch() {
        if (key != NONE && next(12) != 0) {
            return key + TUNINGS[kind][next(8)] + between(-20, 20);
        }
        return next(12) == 0 ? between(-2, 10000) : 1000 + next(3) * 40 + next(20);
    }

    private static void change(int run, ReedBench x, Model m, int mostReeds, int mostSlots, int stout) {
        int a;
        int b;
        int c;
        switch (next(14)) {
            case 0: case 1: case 2: case 3:
                a = somePitch();
                b = between(0, stout + 1);
                c = between(-1, stout);
                if (m.look(1) < mostReeds) {
                    due(run, "reed", x.reed(a, b, c), m.reed(a, b, c));
                }
                break;
            case 4:
                a = between(-1, 12);
                if (next(3) == 0) {
                    due(run, "scrap", bit(x.scrap(a)), bit(m.scrap(a)));
                }
                break;
            case 5:
                a = between(0, 21);
                b = next(4) == 0 ? between(-1, 51) : between(0, 8);
                due(run, "rates", bit(x.rates(a, b)), bit(m.rates(a, b)));
                break;
            case 6: case 7: case 8:
                a = between(-1, 8);
                b = somePitch();
                if (Integer.bitCount(m.look(4)) < mostSlots) {
                    due(run, "want", bit(x.want(a, b)), bit(m.want(a, b)));
                } else {
                    due(run, "want", bit(x.want(a, -1)), bit(m.want(a, -1)));
                }
                break;
            case 9: case 10:
                a = between(-1, 4);
                b = next(10) == 0 ? between(-101, 101) : between(-50, 10);
                c = next(10) == 0 ? between(-101, 101) : between(-10, 50);
                due(run, "beat", bit(x.beat(a, b, c)), bit(m.beat(a, b, c)));
                break;
            case 11:
                a = between(-1, 12);
                b = between(-1, 3);
                c = between(-1, 3);
                due(run, "file", x.file(a, b, c), m.file(a, b, c));
                break;
            case 12:
                if (next(3) == 0) {
                    due(run, "make", x.make(), m.make());
                } else if (next(4) == 0 && mostSlots == 8) {
                    a = between(-1, 3);
                    b = key != NONE ? key : between(-1, 8001);
                    due(run, "tuning", bit(x.tuning(a, b)), bit(m.tuning(a, b)));
                }
                break;
            default:
                for (int n = next(9); n > 0; n--) {
                    due(run, "undo", bit(x.undo()), bit(m.undo()));
                }
                break;
        }
    }

    private static void ask(int run, ReedBench x, Model m, int[] seen) {
        for (int what = -1; what < 30; what++) {
            due(run, "look(" + what + ")", x.look(what), m.look(what));
        }
        for (int r = -1; r < 13; r++) {
            for (int what = -1; what < 8; what++) {
                due(run, "of(" + r + ", " + what + ")", x.of(r, what), m.of(r, what));
            }
        }
        int r = between(-1, m.now.reeds.length);
        int q = between(-1, m.now.reeds.length);
        for (int s = -1; s < 9; s++) {
            int what = between(-1, 3);
            due(run, "work(" + r + ", " + s + ", " + what + ")", x.work(r, s, what), m.work(r, s, what));
        }
        for (int k = -1; k < 5; k++) {
            if (key != NONE) {
                // The reeds that came for this pair, in either order.
                r = 2 * k + next(2);
                q = 4 * k + 1 - r;
            }
            int[] w = m.pairWorkOf(r, q, k);
            seen[0] += w != null && m.now.beats[k] != null && w[0] > 0 ? 1 : 0;
            for (int what = -1; what < 6; what++) {
                int want = w == null || what < 0 || what > 4 ? NONE : w[what];
                due(run, "pairWork(" + r + ", " + q + ", " + k + ", " + what + ")", x.pairWork(r, q, k, what), want);
            }
        }
        askLays(run, x, m, seen);
    }

    private static void askLays(int run, ReedBench x, Model m, int[] seen) {
        if (next(2) == 0) {
            int lacks = m.lacks();
            due(run, "lacks", x.lacks(), lacks);
            seen[1] += lacks != 0 && lacks != m.look(4) ? 1 : 0;
        }
        int count = m.lays();
        seen[2] += count > 1 ? 1 : 0;
        seen[3] += count > 0 && m.bestStrokes > 0 && beatsSomewhere(m) ? 1 : 0;
        due(run, "lays", x.lays(), count);
        int strokes = count == 0 ? NONE : m.bestStrokes;
        due(run, "best(0)", x.best(0), strokes);
        for (int s = -2; s < 10; s++) {
            int want = count == 0 || s < 0 || s > 7 ? NONE : m.bestReeds[s];
            due(run, "best(" + (10 + s) + ")", x.best(10 + s), want);
        }
    }

    private static boolean beatsSomewhere(Model m) {
        boolean some = false;
        for (int k = 0; k < 4; k++) {
            some |= m.beating(m.look(4), k);
        }
        return some;
    }
}
