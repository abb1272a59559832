import java.util.ArrayList;
import java.util.List;

// One test for each sentence of the document that names a boundary case: too small, too large,
// empty, full, refused. Each has benches of its own, and none uses a bench for over 512 calls.
//
// Two sentences can't be reached, so they have no test:
// - WORK, "of several those with the fewest at the tip" (and the other's tip in a PAIR): between two
//   ways with as many STROKES there lies one with fewer, and what is within OFF and BEATS has no gap.
// - lays(), "it wraps": 12 REEDS in 8 SLOTS make 19,958,400 LAYS at most.
public final class BoundaryTests {
    private static final int NONE = -1;
    private static final int NO_PITCH = NONE - 99999;
    private static final int NO_LOOK = NONE - 1000;
    private static final int LOWEST = Integer.MIN_VALUE;
    private static final int HIGHEST = Integer.MAX_VALUE;
    private static final int KEPT = 6;
    private static int wrong = 0;
    private static int tests = 0;
    private static String test = "";

    private interface Call {
        int on(ReedBench x);
    }

    private interface Script {
        void on(ReedBench x);
    }

    public static void main(String[] args) {
        promise1();
        promise2();
        promise3();
        promise4();
        promise5();
        promise6();
        promise7();
        promise8();
        promise9();
        promise10();
        promise11();
        promise12();
        promise13();
        promise14();
        promise15();
        promise16();
        promise17();
        test("an object is used for at most 512 calls", BoundaryTests::usedFor512Calls);
        System.out.println(wrong == 0 ? "all " + tests + " boundaries hold" : wrong + " answers are not as due");
        if (wrong != 0) {
            System.exit(1);
        }
    }

    // ---- what the tests are made of

    /** A test that throws has failed, and those behind it are still run. */
    private static void test(String sentence, Runnable body) {
        test = sentence;
        tests++;
        try {
            body.run();
        } catch (RuntimeException e) {
            fault("threw " + e);
        }
    }

    private static void fault(String text) {
        wrong++;
        System.out.println(test + ": " + text);
    }

    private static void due(String what, int got, int want) {
        if (got != want) {
            fault(what + " answered " + got + ", due is " + want);
        }
    }

    private static void due(String what, boolean got, boolean want) {
        due(what, bit(got), bit(want));
    }

    private static int bit(boolean b) {
        return b ? 1 : 0;
    }

    private static ReedBench bench(Script script) {
        ReedBench x = new ReedBench();
        script.on(x);
        return x;
    }

    /** Nothing of what can be asked may differ, nor what undo() then brings back, step by step. */
    private static void refused(Script before, Call call, int want) {
        due("the call", call.on(bench(before)), want);
        for (int undone = 0; undone <= KEPT + 1; undone++) {
            List<Integer> without = all(bench(before), undone);
            ReedBench x = bench(before);
            call.on(x);
            if (!all(x, undone).equals(without)) {
                fault("a refused call has done something, seen behind " + undone + " undo()");
                return;
            }
        }
    }

    private static void refusedOnAll(Call call, int want) {
        refused(BoundaryTests::empty, call, want);
        refused(BoundaryTests::busy, call, want);
        refused(BoundaryTests::full, call, want);
    }

    private static List<Integer> all(ReedBench x, int undone) {
        List<Integer> answers = new ArrayList<>();
        for (int n = 0; n < undone; n++) {
            answers.add(bit(x.undo()));
        }
        for (int what = 0; what < 28; what++) {
            answers.add(x.look(what));
        }
        for (int r = 0; r < 12; r++) {
            for (int what = 0; what < 7; what++) {
                answers.add(x.of(r, what));
            }
        }
        answers.add(x.best(0));
        for (int s = 0; s < 8; s++) {
            answers.add(x.best(10 + s));
        }
        answers.add(x.lays());
        answers.add(x.lacks());
        return answers;
    }

    private static void empty(ReedBench x) {
    }

    /** REEDS 0 and 1 FREE, 2 SET in SLOT 5 of plate 0, 3 SCRAPPED; PAIR 0 WANTED and beating. */
    private static void busy(ReedBench x) {
        x.reed(1000, 5, 4);
        x.reed(1010, 6, 3);
        x.reed(2000, 4, 4);
        x.reed(3000, 2, 2);
        x.want(5, 2000);
        x.make();
        x.scrap(3);
        x.want(0, 1000);
        x.want(1, 1010);
        x.beat(0, -20, 20);
        x.rates(7, 4);
        x.file(0, 1, 1);
    }

    /** 12 REEDS, all FREE, all SLOTS WANTED, all PAIRS beating; there are LAYS. */
    private static void full(ReedBench x) {
        for (int r = 0; r < 12; r++) {
            x.reed(1000 + r, 20, 20);
        }
        for (int s = 0; s < 8; s++) {
            x.want(s, 1006);
        }
        for (int k = 0; k < 4; k++) {
            x.beat(k, -2, 2);
        }
    }

    /** REEDS that take no STROKE at all, so that each stays at its PITCH. */
    private static void stiff(ReedBench x, int... pitches) {
        for (int pitch : pitches) {
            x.reed(pitch, 1, 0);
        }
    }

    private static void wantAll(ReedBench x, int pitch) {
        for (int s = 0; s < 8; s++) {
            x.want(s, pitch);
        }
    }

    // ---- Promise 1

    private static void promise1() {
        test("1 no REEDS", BoundaryTests::newHasNoReeds);
        test("1 no SLOT is WANTED", BoundaryTests::newWantsNothing);
        test("1 at first RISE is 6, OFF is 5", BoundaryTests::newRates);
        test("1 at first no PAIR has to BEAT", BoundaryTests::newBeats);
        test("1 nothing is shared with another object", BoundaryTests::newSharesNothing);
    }

    private static void newHasNoReeds() {
        ReedBench x = new ReedBench();
        due("look(0)", x.look(0), 0);
        due("look(1)", x.look(1), 0);
        for (int r = 0; r < 12; r++) {
            due("of(" + r + ", 0)", x.of(r, 0), NO_PITCH);
        }
    }

    private static void newWantsNothing() {
        ReedBench x = new ReedBench();
        due("look(4)", x.look(4), 0);
        for (int s = 0; s < 8; s++) {
            due("look(" + (10 + s) + ")", x.look(10 + s), NONE);
        }
    }

    private static void newRates() {
        ReedBench x = new ReedBench();
        due("look(2)", x.look(2), 6);
        due("look(3)", x.look(3), 5);
        x.reed(1000, 2, 2);
        due("RISE", x.file(0, 1, 0), 1006);
        x.want(0, 1011);
        due("within OFF", x.work(0, 0, 0), 0);
        x.want(0, 1012);
        due("beyond OFF", x.work(0, 0, 0), 1);
    }

    private static void newBeats() {
        ReedBench x = new ReedBench();
        for (int what = 20; what < 28; what++) {
            due("look(" + what + ")", x.look(what), NO_LOOK);
        }
        x.rates(6, 50);
        stiff(x, 950, 1050, 950, 1050, 950, 1050, 950, 1050);
        wantAll(x, 1000);
        due("best(0)", x.best(0), 0);
    }

    private static void newSharesNothing() {
        ReedBench old = new ReedBench();
        List<Integer> fresh = all(new ReedBench(), 1);
        full(old);
        old.make();
        if (!all(new ReedBench(), 1).equals(fresh)) {
            fault("a new object is not as one ahead of it");
        }
    }

    // ---- Promise 2

    private static void promise2() {
        test("2 its number, as they come", BoundaryTests::reedNumbers);
        test("2 PITCH 0 and 9999 can be", () -> reedIs(0, 9999, 0));
        test("2 THICKNESS 1 and 20 can be", () -> reedIs(1, 20, 1));
        test("2 TIP 0 and 20 can be", () -> reedIs(0, 20, 2));
        test("2 PITCH below 0 can't be", () -> reedRefused(-1, 5, 5));
        test("2 PITCH above 9999 can't be", () -> reedRefused(10000, 5, 5));
        test("2 THICKNESS below 1 can't be", () -> reedRefused(5, 0, 5));
        test("2 THICKNESS above 20 can't be", () -> reedRefused(5, 21, 5));
        test("2 TIP below 0 can't be", () -> reedRefused(5, 5, -1));
        test("2 TIP above 20 can't be", () -> reedRefused(5, 5, 21));
        test("2 far out can't be", BoundaryTests::reedFarOut);
        test("2 there were 12", BoundaryTests::thirteenthReed);
        test("2 there were 12, SCRAPPED or SET", BoundaryTests::thirteenthBehindOthers);
        test("2 there were 12, one taken back", BoundaryTests::twelfthAgain);
    }

    private static void reedNumbers() {
        ReedBench x = new ReedBench();
        for (int r = 0; r < 12; r++) {
            due("refused ahead of " + r, x.reed(10000, 1, 0), NONE);
            due("reed " + r, x.reed(100 * r, 1, 0), r);
            due("look(0)", x.look(0), r + 1);
            due("its PITCH", x.of(r, 0), 100 * r);
        }
    }

    private static void reedIs(int least, int most, int what) {
        for (int value = least; value <= most; value += most - least) {
            ReedBench x = new ReedBench();
            int number = what == 0 ? x.reed(value, 5, 5) : what == 1 ? x.reed(5, value, 5) : x.reed(5, 5, value);
            due("reed with " + value, number, 0);
            due("of(0, " + what + ")", x.of(0, what), value);
        }
    }

    private static void reedRefused(int pitch, int thickness, int tip) {
        refused(BoundaryTests::empty, x -> x.reed(pitch, thickness, tip), NONE);
        refused(BoundaryTests::busy, x -> x.reed(pitch, thickness, tip), NONE);
    }

    private static void reedFarOut() {
        reedRefused(LOWEST, 5, 5);
        reedRefused(HIGHEST, 5, 5);
        reedRefused(5, LOWEST, 5);
        reedRefused(5, HIGHEST, 5);
        reedRefused(5, 5, LOWEST);
        reedRefused(5, 5, HIGHEST);
    }

    private static void thirteenthReed() {
        refused(BoundaryTests::full, x -> x.reed(5, 5, 5), NONE);
    }

    private static void thirteenthBehindOthers() {
        Script gone = x -> {
            full(x);
            x.make();
            for (int r = 0; r < 12; r++) {
                x.scrap(r);
            }
        };
        due("none is FREE", bench(gone).look(1), 0);
        refused(gone, x -> x.reed(5, 5, 5), NONE);
    }

    private static void twelfthAgain() {
        ReedBench x = new ReedBench();
        for (int r = 0; r < 12; r++) {
            x.reed(1000, 9, 9);
        }
        x.file(11, 1, 1);
        x.undo();
        x.undo();
        due("look(0)", x.look(0), 11);
        due("reed", x.reed(7, 3, 2), 11);
        int[] fresh = {7, 3, 2, 0, NONE, NONE, 0};
        for (int what = 0; what < 7; what++) {
            due("of(11, " + what + ")", x.of(11, what), fresh[what]);
        }
        due("a thirteenth", x.reed(7, 3, 2), NONE);
    }

    // ---- Promise 3

    private static void promise3() {
        test("3 the first and the last REED", BoundaryTests::scrapEnds);
        test("3 none came", () -> refused(BoundaryTests::empty, x -> bit(x.scrap(0)), 0));
        test("3 below 0", () -> refusedOnAll(x -> bit(x.scrap(-1)), 0));
        test("3 the number that comes next", () -> refused(BoundaryTests::busy, x -> bit(x.scrap(4)), 0));
        test("3 above 11", () -> refusedOnAll(x -> bit(x.scrap(12)), 0));
        test("3 far out", BoundaryTests::scrapFarOut);
        test("3 SET", () -> refused(BoundaryTests::busy, x -> bit(x.scrap(2)), 0));
        test("3 SCRAPPED", () -> refused(BoundaryTests::busy, x -> bit(x.scrap(3)), 0));
    }

    private static void scrapEnds() {
        ReedBench x = bench(BoundaryTests::full);
        due("scrap(0)", x.scrap(0), true);
        due("scrap(11)", x.scrap(11), true);
        due("of(0, 3)", x.of(0, 3), 2);
        due("of(11, 3)", x.of(11, 3), 2);
        due("of(10, 3)", x.of(10, 3), 0);
        due("look(0)", x.look(0), 12);
        due("look(1)", x.look(1), 10);
    }

    private static void scrapFarOut() {
        refusedOnAll(x -> bit(x.scrap(LOWEST)), 0);
        refusedOnAll(x -> bit(x.scrap(HIGHEST)), 0);
    }

    // ---- Promise 4

    private static void promise4() {
        test("4 RISE 1 and OFF 0 can be", () -> ratesAre(1, 0));
        test("4 RISE 20 and OFF 50 can be", () -> ratesAre(20, 50));
        test("4 RISE below 1 can't be", () -> ratesRefused(0, 9));
        test("4 RISE above 20 can't be", () -> ratesRefused(21, 9));
        test("4 OFF below 0 can't be", () -> ratesRefused(9, -1));
        test("4 OFF above 50 can't be", () -> ratesRefused(9, 51));
        test("4 far out can't be", BoundaryTests::ratesFarOut);
    }

    private static void ratesAre(int rise, int off) {
        ReedBench x = new ReedBench();
        due("rates", x.rates(rise, off), true);
        due("look(2)", x.look(2), rise);
        due("look(3)", x.look(3), off);
        x.reed(1000, 1, 20);
        due("file", x.file(0, 20, 0), 1000 + 20 * rise);
    }

    private static void ratesRefused(int rise, int off) {
        refusedOnAll(x -> bit(x.rates(rise, off)), 0);
    }

    private static void ratesFarOut() {
        ratesRefused(LOWEST, 9);
        ratesRefused(HIGHEST, 9);
        ratesRefused(9, LOWEST);
        ratesRefused(9, HIGHEST);
    }

    // ---- Promise 5

    private static void promise5() {
        test("5 SLOTS 0 .. 7", BoundaryTests::wantEachSlot);
        test("5 a PITCH 0 and 9999 can be", BoundaryTests::wantEnds);
        test("5 -1: it is not", BoundaryTests::wantNoMore);
        test("5 -1 where it was not WANTED", BoundaryTests::wantNothingOfNothing);
        test("5 SLOT below 0 can't be", () -> wantRefused(-1, 500));
        test("5 SLOT above 7 can't be", () -> wantRefused(8, 500));
        test("5 -1 for a SLOT that can't be", BoundaryTests::wantNoneOfNoSlot);
        test("5 a PITCH below -1 can't be", () -> wantRefused(0, -2));
        test("5 a PITCH above 9999 can't be", () -> wantRefused(0, 10000));
        test("5 far out can't be", BoundaryTests::wantFarOut);
    }

    private static void wantEachSlot() {
        ReedBench x = new ReedBench();
        int set = 0;
        for (int s = 7; s >= 0; s--) {
            due("want(" + s + ", ..)", x.want(s, 100 + s), true);
            set |= 1 << s;
            due("look(4)", x.look(4), set);
        }
        for (int s = 0; s < 8; s++) {
            due("look(" + (10 + s) + ")", x.look(10 + s), 100 + s);
        }
    }

    private static void wantEnds() {
        ReedBench x = new ReedBench();
        due("want(3, 0)", x.want(3, 0), true);
        due("look(13)", x.look(13), 0);
        due("look(4)", x.look(4), 8);
        due("want(3, 9999)", x.want(3, 9999), true);
        due("look(13)", x.look(13), 9999);
    }

    private static void wantNoMore() {
        ReedBench x = bench(BoundaryTests::full);
        due("want(7, -1)", x.want(7, -1), true);
        due("look(4)", x.look(4), 127);
        due("look(17)", x.look(17), NONE);
        due("best(17)", x.best(17), NONE);
        due("work(0, 7, 0)", x.work(0, 7, 0), NONE);
    }

    private static void wantNothingOfNothing() {
        ReedBench x = new ReedBench();
        due("want(0, -1)", x.want(0, -1), true);
        due("look(4)", x.look(4), 0);
        due("it was done", x.undo(), true);
    }

    private static void wantRefused(int s, int pitch) {
        refusedOnAll(x -> bit(x.want(s, pitch)), 0);
    }

    private static void wantNoneOfNoSlot() {
        wantRefused(-1, -1);
        wantRefused(8, -1);
    }

    private static void wantFarOut() {
        wantRefused(LOWEST, 500);
        wantRefused(HIGHEST, 500);
        wantRefused(0, LOWEST);
        wantRefused(0, HIGHEST);
    }

    // ---- Promise 6

    private static void promise6() {
        test("6 0 EVEN", () -> tuned(0, 0, 200, 400, 500, 700, 900, 1100, 1200));
        test("6 1 JUST", () -> tuned(1, 0, 204, 386, 498, 702, 884, 1088, 1200));
        test("6 2 PAIRED", () -> tuned(2, 0, 0, 400, 400, 700, 700, 1200, 1200));
        test("6 kind below 0 can't be", () -> tuningRefused(-1, 500));
        test("6 kind above 2 can't be", () -> tuningRefused(3, 500));
        test("6 KEY below 0 can't be", () -> tuningRefused(0, -1));
        test("6 KEY above 8000 can't be", () -> tuningRefused(2, 8001));
        test("6 far out can't be", BoundaryTests::tuningFarOut);
    }

    /** At the least and the most KEY, where no SLOT and where all were WANTED before. */
    private static void tuned(int kind, int... above) {
        for (int key = 0; key <= 8000; key += 8000) {
            for (int before = -1; before <= 9999; before += 10000) {
                ReedBench x = new ReedBench();
                wantAll(x, before);
                due("tuning(" + kind + ", " + key + ")", x.tuning(kind, key), true);
                due("look(4)", x.look(4), 255);
                for (int s = 0; s < 8; s++) {
                    due("look(" + (10 + s) + ")", x.look(10 + s), key + above[s]);
                }
            }
        }
    }

    private static void tuningRefused(int kind, int key) {
        refusedOnAll(x -> bit(x.tuning(kind, key)), 0);
    }

    private static void tuningFarOut() {
        tuningRefused(LOWEST, 500);
        tuningRefused(HIGHEST, 500);
        tuningRefused(0, LOWEST);
        tuningRefused(0, HIGHEST);
    }

    // ---- Promise 7

    private static void promise7() {
        test("7 PAIRS 0 .. 3", BoundaryTests::beatEachPair);
        test("7 low -100, high 100 can be", () -> beatIs(-100, 100));
        test("7 low and high both -100 can be", () -> beatIs(-100, -100));
        test("7 low and high both 100 can be", () -> beatIs(100, 100));
        test("7 low above high: it need not", BoundaryTests::beatNoMore);
        test("7 low above high by one", BoundaryTests::beatJustAbove);
        test("7 a PAIR of which one SLOT is WANTED", BoundaryTests::beatOfHalfPair);
        test("7 PAIR below 0 can't be", () -> beatRefused(-1, 0, 0));
        test("7 PAIR above 3 can't be", () -> beatRefused(4, 0, 0));
        test("7 low below -100 can't be", () -> beatRefused(0, -101, 0));
        test("7 low above 100 can't be", () -> beatRefused(0, 101, 0));
        test("7 high below -100 can't be", () -> beatRefused(0, 0, -101));
        test("7 high above 100 can't be", () -> beatRefused(0, 0, 101));
        test("7 far out can't be", BoundaryTests::beatFarOut);
    }

    private static void beatEachPair() {
        ReedBench x = new ReedBench();
        for (int k = 3; k >= 0; k--) {
            due("beat(" + k + ", ..)", x.beat(k, -k, 10 + k), true);
            for (int other = 0; other < 4; other++) {
                due("low of " + other, x.look(20 + 2 * other), other < k ? NO_LOOK : -other);
                due("high of " + other, x.look(21 + 2 * other), other < k ? NO_LOOK : 10 + other);
            }
        }
    }

    private static void beatIs(int low, int high) {
        ReedBench x = new ReedBench();
        due("beat", x.beat(2, low, high), true);
        due("look(24)", x.look(24), low);
        due("look(25)", x.look(25), high);
    }

    private static void beatNoMore() {
        ReedBench x = new ReedBench();
        stiff(x, 1000, 1000);
        x.want(6, 1000);
        x.want(7, 1000);
        x.beat(3, 1, 2);
        due("it has to", x.best(0), NONE);
        due("beat(3, 100, -100)", x.beat(3, 100, -100), true);
        due("look(26)", x.look(26), NO_LOOK);
        due("look(27)", x.look(27), NO_LOOK);
        due("it need not", x.best(0), 0);
        due("nor alone", x.pairWork(0, 1, 3, 0), 0);
    }

    private static void beatJustAbove() {
        ReedBench x = new ReedBench();
        due("beat(0, 0, 0)", x.beat(0, 0, 0), true);
        due("look(20)", x.look(20), 0);
        due("beat(0, 1, 0)", x.beat(0, 1, 0), true);
        due("look(20)", x.look(20), NO_LOOK);
        due("look(21)", x.look(21), NO_LOOK);
    }

    private static void beatOfHalfPair() {
        for (int half = 0; half < 2; half++) {
            ReedBench x = new ReedBench();
            stiff(x, 1000, 1000);
            x.beat(1, 1, 2);
            x.want(2 + half, 1000);
            due("one SLOT", x.best(0), 0);
            due("its LAYS", x.lays(), 2);
            x.want(3 - half, 1000);
            due("both SLOTS", x.best(0), NONE);
            x.want(2 + half, -1);
            due("the other SLOT", x.best(0), 0);
            due("what was told stays", x.look(22), 1);
        }
    }

    private static void beatRefused(int k, int low, int high) {
        refusedOnAll(x -> bit(x.beat(k, low, high)), 0);
    }

    private static void beatFarOut() {
        beatRefused(LOWEST, 0, 0);
        beatRefused(HIGHEST, 0, 0);
        beatRefused(0, LOWEST, 0);
        beatRefused(0, HIGHEST, 0);
        beatRefused(0, 0, LOWEST);
        beatRefused(0, 0, HIGHEST);
    }

    // ---- Promise 8

    private static void promise8() {
        test("8 no STROKES", BoundaryTests::fileByNothing);
        test("8 all STROKES at the tip, as far as q 0", BoundaryTests::fileWholeTip);
        test("8 all STROKES at the root, as far as t 1", BoundaryTests::fileWholeRoot);
        test("8 in any order it comes to the same", BoundaryTests::fileInAnyOrder);
        test("8 a PITCH may be below 0", BoundaryTests::fileBelowZero);
        test("8 a STROKE more than q can't be", () -> fileRefused(1, 4, 0));
        test("8 a STROKE more than t bears can't be", () -> fileRefused(1, 0, 6));
        test("8 there is none with q 0", () -> fileOfStiffRefused(1, 0));
        test("8 there is none with t 1", () -> fileOfStiffRefused(0, 1));
        test("8 STROKES at the tip below 0 can't be", () -> fileRefused(1, -1, 1));
        test("8 STROKES at the root below 0 can't be", () -> fileRefused(1, 1, -1));
        test("8 one can be, the other not", BoundaryTests::fileHalfRefused);
        test("8 far out can't be", BoundaryTests::fileFarOut);
        test("8 none came", () -> refused(BoundaryTests::empty, x -> x.file(0, 0, 0), NO_PITCH));
        test("8 below 0", () -> refusedOnAll(x -> x.file(-1, 0, 0), NO_PITCH));
        test("8 the number that comes next", () -> fileRefused(4, 0, 0));
        test("8 above 11", () -> refusedOnAll(x -> x.file(12, 0, 0), NO_PITCH));
        test("8 SET", () -> fileRefused(2, 0, 0));
        test("8 SCRAPPED", () -> fileRefused(3, 0, 0));
    }

    private static void fileByNothing() {
        ReedBench x = new ReedBench();
        x.reed(9999, 20, 20);
        due("file(0, 0, 0)", x.file(0, 0, 0), 9999);
        due("of(0, 6)", x.of(0, 6), 0);
        due("it was done", x.undo(), true);
        due("REED 0 stays", x.look(0), 1);
    }

    private static void fileWholeTip() {
        ReedBench x = new ReedBench();
        x.rates(20, 5);
        x.reed(9999, 1, 20);
        due("file(0, 20, 0)", x.file(0, 20, 0), 10399);
        due("of(0, 0)", x.of(0, 0), 10399);
        due("of(0, 2)", x.of(0, 2), 0);
        due("of(0, 6)", x.of(0, 6), 20);
        due("one more", x.file(0, 1, 0), NO_PITCH);
    }

    private static void fileWholeRoot() {
        ReedBench x = new ReedBench();
        x.reed(1000, 20, 0);
        due("file(0, 0, 19)", x.file(0, 0, 19), 1000 - 209);
        due("of(0, 1)", x.of(0, 1), 1);
        due("of(0, 6)", x.of(0, 6), 19);
        due("one more", x.file(0, 0, 1), NO_PITCH);
    }

    private static void fileInAnyOrder() {
        ReedBench x = new ReedBench();
        for (int r = 0; r < 3; r++) {
            x.reed(1000, 5, 3);
        }
        int together = x.file(0, 2, 3);
        x.file(1, 2, 0);
        int tipFirst = x.file(1, 0, 3);
        for (int n = 0; n < 3; n++) {
            x.file(2, 0, 1);
        }
        int rootFirst = x.file(2, 2, 0);
        due("together", together, 1000 + 12 - 5 - 4 - 3);
        due("the tip first", tipFirst, together);
        due("the root first", rootFirst, together);
        for (int what = 1; what < 7; what++) {
            due("of(1, " + what + ")", x.of(1, what), x.of(0, what));
            due("of(2, " + what + ")", x.of(2, what), x.of(0, what));
        }
    }

    private static void fileBelowZero() {
        ReedBench x = new ReedBench();
        x.reed(0, 20, 20);
        due("file", x.file(0, 0, 1), -20);
        due("to the lowest", x.file(0, 0, 18), -209);
        due("of(0, 0)", x.of(0, 0), -209);
        due("and up again", x.file(0, 20, 0), -89);
    }

    private static void fileRefused(int r, int i, int j) {
        refused(BoundaryTests::busy, x -> x.file(r, i, j), NO_PITCH);
    }

    private static void fileOfStiffRefused(int i, int j) {
        refused(x -> stiff(x, 1000), x -> x.file(0, i, j), NO_PITCH);
    }

    private static void fileHalfRefused() {
        fileRefused(1, 3, 6);
        fileRefused(1, 4, 5);
        ReedBench x = bench(BoundaryTests::busy);
        due("both can be", x.file(1, 3, 5), 1010 + 21 - 6 - 5 - 4 - 3 - 2);
    }

    private static void fileFarOut() {
        int[] far = {LOWEST, LOWEST + 1, HIGHEST};
        for (int n : far) {
            fileRefused(n, 0, 0);
            fileRefused(1, n, 0);
            fileRefused(1, 0, n);
        }
    }

    // ---- Promise 9

    private static void promise9() {
        test("9 0 REEDS that came, 0 .. 12, and 1 FREE ones", BoundaryTests::lookReeds);
        test("9 4 the WANTED SLOTS, none and all", BoundaryTests::lookSets);
        test("9 5 plates MADE", BoundaryTests::lookPlates);
        test("9 10 + s of SLOTS 0 and 7", BoundaryTests::lookWanted);
        test("9 20 + 2 k, 21 + 2 k of PAIRS 0 and 3", BoundaryTests::lookBeats);
        test("9 NONE - 1000 if it need not BEAT", BoundaryTests::lookNoBeats);
        test("9 none such", BoundaryTests::lookNoneSuch);
    }

    private static void lookReeds() {
        ReedBench x = new ReedBench();
        for (int r = 0; r < 12; r++) {
            x.reed(1000, 1, 0);
            due("look(0)", x.look(0), r + 1);
            due("look(1)", x.look(1), r + 1);
        }
        wantAll(x, 1000);
        x.make();
        due("FREE behind make()", x.look(1), 4);
        for (int r = 8; r < 12; r++) {
            x.scrap(r);
        }
        due("none is FREE", x.look(1), 0);
        due("they came", x.look(0), 12);
    }

    private static void lookSets() {
        ReedBench x = new ReedBench();
        due("none", x.look(4), 0);
        x.tuning(0, 0);
        due("all", x.look(4), 255);
        x.want(0, -1);
        due("without 0", x.look(4), 254);
        x.want(7, -1);
        due("nor 7", x.look(4), 126);
    }

    private static void lookPlates() {
        ReedBench x = new ReedBench();
        due("none", x.look(5), 0);
        x.make();
        due("none by a refused call", x.look(5), 0);
        for (int r = 0; r < 12; r++) {
            x.reed(1000, 1, 0);
            x.want(0, 1000);
            x.make();
            due("plates", x.look(5), r + 1);
        }
    }

    private static void lookWanted() {
        ReedBench x = new ReedBench();
        x.want(0, 0);
        x.want(7, 9999);
        due("look(10)", x.look(10), 0);
        due("look(11)", x.look(11), NONE);
        due("look(16)", x.look(16), NONE);
        due("look(17)", x.look(17), 9999);
    }

    private static void lookBeats() {
        ReedBench x = new ReedBench();
        x.beat(0, -100, -99);
        x.beat(3, 99, 100);
        due("look(20)", x.look(20), -100);
        due("look(21)", x.look(21), -99);
        due("look(26)", x.look(26), 99);
        due("look(27)", x.look(27), 100);
    }

    private static void lookNoBeats() {
        ReedBench x = bench(BoundaryTests::full);
        x.beat(0, 1, 0);
        x.beat(3, 1, 0);
        int[] due = {NO_LOOK, NO_LOOK, -2, 2, -2, 2, NO_LOOK, NO_LOOK};
        for (int n = 0; n < 8; n++) {
            due("look(" + (20 + n) + ")", x.look(20 + n), due[n]);
        }
    }

    private static void lookNoneSuch() {
        int[] none = {LOWEST, -20, -10, -1, 6, 7, 8, 9, 18, 19, 28, 29, 100, HIGHEST};
        for (int what : none) {
            due("empty: look(" + what + ")", new ReedBench().look(what), NO_LOOK);
            due("full: look(" + what + ")", bench(BoundaryTests::full).look(what), NO_LOOK);
        }
    }

    // ---- Promise 10

    private static void promise10() {
        test("10 a FREE REED: no plate, no SLOT", () -> ofIs(1, 1010, 6, 3, 0, NONE, NONE, 0));
        test("10 a SET REED: its plate and SLOT", () -> ofIs(2, 2000, 4, 4, 1, 0, 5, 0));
        test("10 a SCRAPPED REED: no plate, no SLOT", () -> ofIs(3, 3000, 2, 2, 2, NONE, NONE, 0));
        test("10 all STROKES it had", BoundaryTests::ofAllStrokes);
        test("10 REED 11", BoundaryTests::ofTheLast);
        test("10 there is none such", BoundaryTests::ofNoReed);
        test("10 another what", BoundaryTests::ofAnotherWhat);
    }

    private static void ofIs(int r, int... due) {
        ReedBench x = bench(BoundaryTests::busy);
        for (int what = 0; what < 7; what++) {
            due("of(" + r + ", " + what + ")", x.of(r, what), due[what]);
        }
    }

    private static void ofAllStrokes() {
        ReedBench x = new ReedBench();
        x.reed(1000, 20, 20);
        x.file(0, 18, 17);
        due("of(0, 6)", x.of(0, 6), 35);
        x.rates(20, 0);
        x.want(0, x.of(0, 0) + 40 - 3 - 2);
        due("make()", x.make(), 0);
        due("those of make() too", x.of(0, 6), 39);
        due("of(0, 1)", x.of(0, 1), 1);
        due("of(0, 2)", x.of(0, 2), 0);
    }

    private static void ofTheLast() {
        ReedBench x = bench(BoundaryTests::full);
        due("of(11, 0)", x.of(11, 0), 1011);
        due("of(11, 3)", x.of(11, 3), 0);
        due("of(11, 6)", x.of(11, 6), 0);
    }

    private static void ofNoReed() {
        int[] none = {LOWEST, -1, 4, 11, 12, HIGHEST};
        for (int r : none) {
            for (int what = 0; what < 7; what++) {
                due("of(" + r + ", " + what + ")", bench(BoundaryTests::busy).of(r, what), NO_PITCH);
            }
        }
        due("of(12, 0), all came", bench(BoundaryTests::full).of(12, 0), NO_PITCH);
        due("of(0, 0), none came", new ReedBench().of(0, 0), NO_PITCH);
    }

    private static void ofAnotherWhat() {
        int[] others = {LOWEST, -1, 7, 8, HIGHEST};
        for (int what : others) {
            for (int r = 0; r < 4; r++) {
                due("of(" + r + ", " + what + ")", bench(BoundaryTests::busy).of(r, what), NO_PITCH);
            }
        }
    }

    // ---- Promise 11

    private static void promise11() {
        test("11 within OFF, either way: 0", () -> withinOff(0));
        test("11 within OFF, either way: 5", () -> withinOff(5));
        test("11 within OFF, either way: 50", () -> withinOff(50));
        test("11 WANTED at 0 and at 9999", BoundaryTests::workAtTheEnds);
        test("11 all STROKES at the tip, and one too few", BoundaryTests::workWholeTip);
        test("11 all STROKES at the root, and one too few", BoundaryTests::workWholeRoot);
        test("11 all STROKES at both", BoundaryTests::workWholeReed);
        test("11 a REED below 0", BoundaryTests::workBelowZero);
        test("11 any that came: SET, SCRAPPED", BoundaryTests::workOfAny);
        test("11 a PAIR that has to BEAT is not asked", BoundaryTests::workBesidesBeat);
        test("11 it can't be done", BoundaryTests::workCannotBe);
        test("11 the REED can't be", BoundaryTests::workNoReed);
        test("11 the SLOT can't be, or is not WANTED", BoundaryTests::workNoSlot);
        test("11 another what", BoundaryTests::workAnotherWhat);
    }

    private static void withinOff(int off) {
        ReedBench x = new ReedBench();
        x.rates(1, off);
        stiff(x, 1000);
        int[] apart = {-off - 1, -off, off, off + 1};
        for (int n = 0; n < 4; n++) {
            x.want(7, 1000 + apart[n]);
            due("OFF by " + apart[n], x.work(0, 7, 0), n == 1 || n == 2 ? 0 : NONE);
        }
    }

    private static void workAtTheEnds() {
        ReedBench x = new ReedBench();
        x.rates(5, 5);
        x.reed(6, 6, 0);
        x.reed(9999, 1, 2);
        x.want(0, 0);
        x.want(7, 9999);
        due("6 is one too far from 0", x.work(0, 0, 2), 1);
        due("9999", x.work(1, 7, 0), 0);
        x.file(1, 1, 0);
        due("10004", x.work(1, 7, 0), 0);
        x.file(1, 1, 0);
        due("10009", x.work(1, 7, 0), NONE);
    }

    private static void workWholeTip() {
        ReedBench x = new ReedBench();
        x.rates(20, 0);
        x.reed(1000, 1, 20);
        x.want(0, 1400);
        due("STROKES", x.work(0, 0, 0), 20);
        due("tip", x.work(0, 0, 1), 20);
        due("root", x.work(0, 0, 2), 0);
        x.want(0, 1420);
        due("one too few", x.work(0, 0, 0), NONE);
    }

    private static void workWholeRoot() {
        ReedBench x = new ReedBench();
        x.rates(20, 0);
        x.reed(1000, 20, 0);
        x.want(0, 791);
        due("STROKES", x.work(0, 0, 0), 19);
        due("tip", x.work(0, 0, 1), 0);
        due("root", x.work(0, 0, 2), 19);
        x.want(0, 790);
        due("one too few", x.work(0, 0, 0), NONE);
    }

    /** 20 STROKES up by 20 and the two that are left at the root: no other way comes to that. */
    private static void workWholeReed() {
        ReedBench x = new ReedBench();
        x.rates(20, 0);
        x.reed(1000, 20, 20);
        x.file(0, 0, 17);
        x.want(0, x.of(0, 0) + 400 - 5);
        due("STROKES", x.work(0, 0, 0), 22);
        due("tip", x.work(0, 0, 1), 20);
        due("root", x.work(0, 0, 2), 2);
    }

    private static void workBelowZero() {
        ReedBench x = new ReedBench();
        x.reed(0, 6, 2);
        x.want(0, 0);
        x.file(0, 0, 1);
        due("at -6", x.work(0, 0, 1), 1);
        x.rates(6, 6);
        due("OFF 6", x.work(0, 0, 0), 0);
    }

    private static void workOfAny() {
        ReedBench x = bench(BoundaryTests::busy);
        x.want(7, 2007);
        due("a SET one", x.work(2, 7, 0), 1);
        x.want(7, 2998);
        due("a SCRAPPED one", x.work(3, 7, 0), 0);
        x.want(7, 3012);
        due("its tip", x.work(3, 7, 1), 2);
    }

    private static void workBesidesBeat() {
        ReedBench x = new ReedBench();
        stiff(x, 1000, 1000);
        wantAll(x, 1000);
        x.beat(0, 1, 2);
        due("work(0, 0, 0)", x.work(0, 0, 0), 0);
        due("work(0, 1, 0)", x.work(0, 1, 0), 0);
        due("the PAIR", x.pairWork(0, 1, 0, 0), NONE);
    }

    private static void workCannotBe() {
        ReedBench x = new ReedBench();
        stiff(x, 1000);
        x.want(0, 2000);
        for (int what = 0; what < 3; what++) {
            due("work(0, 0, " + what + ")", x.work(0, 0, what), NONE);
        }
    }

    private static void workNoReed() {
        int[] none = {LOWEST, -1, 4, 12, HIGHEST};
        for (int r : none) {
            due("work(" + r + ", 0, 0)", bench(BoundaryTests::busy).work(r, 0, 0), NONE);
        }
        due("above 11", bench(BoundaryTests::full).work(12, 0, 0), NONE);
        ReedBench x = new ReedBench();
        x.want(0, 0);
        due("none came", x.work(0, 0, 0), NONE);
    }

    private static void workNoSlot() {
        int[] none = {LOWEST, -1, 8, HIGHEST};
        for (int s : none) {
            due("work(0, " + s + ", 0)", bench(BoundaryTests::full).work(0, s, 0), NONE);
        }
        due("not WANTED", bench(BoundaryTests::busy).work(0, 2, 0), NONE);
        ReedBench x = new ReedBench();
        stiff(x, 0);
        due("not WANTED, a REED at 0", x.work(0, 0, 0), NONE);
    }

    private static void workAnotherWhat() {
        int[] others = {LOWEST, -1, 3, 4, HIGHEST};
        for (int what : others) {
            due("what " + what, bench(BoundaryTests::full).work(0, 0, what), NONE);
        }
    }

    // ---- Promise 12

    private static void promise12() {
        test("12 BEAT: not below low", BoundaryTests::beatLow);
        test("12 BEAT: not above high", BoundaryTests::beatHigh);
        test("12 BEAT by -100 .. 100 at the widest", BoundaryTests::beatWidest);
        test("12 each is within OFF", BoundaryTests::pairWithinOff);
        test("12 PAIRS 0 .. 3", BoundaryTests::pairWorkOfEachPair);
        test("12 it need not BEAT", BoundaryTests::pairWorkApart);
        test("12 with all STROKES of both", BoundaryTests::pairWorkWhole);
        test("12 from one STROKE at the first one's tip to 20", BoundaryTests::pairWorkEachTip);
        test("12 of several the fewest at the first one's tip", BoundaryTests::pairFewestAtTip);
        test("12 then at its root", BoundaryTests::pairFewestAtRoot);
        test("12 any that came: SET, SCRAPPED", BoundaryTests::pairWorkOfAny);
        test("12 it can't be done", BoundaryTests::pairWorkCannotBe);
        test("12 both are the same", BoundaryTests::pairWorkOfTheSame);
        test("12 a REED can't be", BoundaryTests::pairWorkNoReed);
        test("12 the PAIR can't be", BoundaryTests::pairWorkNoPair);
        test("12 one SLOT is not WANTED", BoundaryTests::pairWorkHalfWanted);
        test("12 another what", BoundaryTests::pairWorkAnotherWhat);
    }

    /** REEDS 0 at 1000 and 1 at 1010 that take no STROKES, in PAIR 2. */
    private static ReedBench stiffPair() {
        ReedBench x = new ReedBench();
        x.rates(6, 50);
        stiff(x, 1000, 1010);
        x.want(4, 1000);
        x.want(5, 1000);
        return x;
    }

    private static void beatLow() {
        ReedBench x = stiffPair();
        x.beat(2, 10, 100);
        due("just low", x.pairWork(0, 1, 2, 0), 0);
        x.beat(2, 11, 100);
        due("below low", x.pairWork(0, 1, 2, 0), NONE);
        x.beat(2, -10, 100);
        due("the other way, just low", x.pairWork(1, 0, 2, 0), 0);
        x.beat(2, -9, 100);
        due("the other way, below low", x.pairWork(1, 0, 2, 0), NONE);
    }

    private static void beatHigh() {
        ReedBench x = stiffPair();
        x.beat(2, -100, 10);
        due("just high", x.pairWork(0, 1, 2, 0), 0);
        x.beat(2, -100, 9);
        due("above high", x.pairWork(0, 1, 2, 0), NONE);
        x.beat(2, -100, -10);
        due("the other way, just high", x.pairWork(1, 0, 2, 0), 0);
        x.beat(2, -100, -11);
        due("the other way, above high", x.pairWork(1, 0, 2, 0), NONE);
    }

    private static void beatWidest() {
        ReedBench x = new ReedBench();
        x.rates(6, 50);
        stiff(x, 950, 1050, 1051);
        x.want(0, 1000);
        x.want(1, 1001);
        x.beat(0, 100, 100);
        due("by 100", x.pairWork(0, 1, 0, 0), 0);
        due("by 101", x.pairWork(0, 2, 0, 0), NONE);
        x.beat(0, -100, 100);
        due("by 100, widest", x.pairWork(0, 1, 0, 0), 0);
        due("by 101, widest", x.pairWork(0, 2, 0, 0), NONE);
        x.want(0, 1001);
        x.want(1, 1000);
        due("by -100, widest", x.pairWork(1, 0, 0, 0), 0);
        due("by -101, widest", x.pairWork(2, 0, 0, 0), NONE);
        x.beat(0, -100, -100);
        due("by -100", x.pairWork(1, 0, 0, 0), 0);
    }

    /** Each end of OFF for each of the two, beside one that is just right. */
    private static void pairWithinOff() {
        int[] pitches = {994, 995, 1005, 1006};
        for (int pitch : pitches) {
            ReedBench x = new ReedBench();
            stiff(x, pitch, 1000);
            x.want(0, 1000);
            x.want(1, 1000);
            int want = pitch == 995 || pitch == 1005 ? 0 : NONE;
            due("first at " + pitch, x.pairWork(0, 1, 0, 0), want);
            due("other at " + pitch, x.pairWork(1, 0, 0, 0), want);
            x.beat(0, -50, 50);
            due("beating, first at " + pitch, x.pairWork(0, 1, 0, 0), want);
            due("beating, other at " + pitch, x.pairWork(1, 0, 0, 0), want);
        }
    }

    private static void pairWorkOfEachPair() {
        for (int k = 0; k < 4; k++) {
            ReedBench x = new ReedBench();
            stiff(x, 1000, 1003);
            x.want(2 * k, 1000);
            x.want(2 * k + 1, 1003);
            x.beat(k, 3, 3);
            for (int other = 0; other < 4; other++) {
                due("PAIR " + other + " of " + k, x.pairWork(0, 1, other, 0), other == k ? 0 : NONE);
            }
        }
    }

    private static void pairWorkApart() {
        ReedBench x = new ReedBench();
        x.rates(6, 0);
        x.reed(0, 1, 2);
        x.reed(9999, 20, 0);
        x.want(0, 12);
        x.want(1, 9979);
        int[] due = {3, 2, 0, 0, 1};
        for (int what = 0; what < 5; what++) {
            due("what " + what, x.pairWork(0, 1, 0, what), due[what]);
        }
        x.beat(0, -100, 100);
        due("so far apart they don't BEAT", x.pairWork(0, 1, 0, 0), NONE);
    }

    /** The first needs its whole root, the other its whole tip, to be 0 apart. */
    private static void pairWorkWhole() {
        ReedBench x = new ReedBench();
        x.rates(20, 0);
        x.reed(1609, 20, 0);
        x.reed(1000, 1, 20);
        x.want(6, 1400);
        x.want(7, 1400);
        x.beat(3, 0, 0);
        int[] due = {39, 0, 19, 20, 0};
        int[] swapped = {39, 20, 0, 0, 19};
        for (int what = 0; what < 5; what++) {
            due("what " + what, x.pairWork(0, 1, 3, what), due[what]);
            due("swapped, what " + what, x.pairWork(1, 0, 3, what), swapped[what]);
        }
    }

    private static void pairWorkEachTip() {
        ReedBench x = new ReedBench();
        x.rates(20, 0);
        x.reed(1000, 1, 20);
        stiff(x, 1000);
        x.want(3, 1000);
        for (int i = 0; i <= 20; i++) {
            x.want(2, 1000 + 20 * i);
            due("STROKES " + i, x.pairWork(0, 1, 1, 0), i);
            due("tip " + i, x.pairWork(0, 1, 1, 1), i);
            due("root at " + i, x.pairWork(0, 1, 1, 2), 0);
            due("swapped, tip " + i, x.pairWork(1, 0, 1, 3), i == 0 ? 0 : NONE);
        }
        x.want(2, 1420);
        due("one too few", x.pairWork(0, 1, 1, 0), NONE);
    }

    /** The first up by 4 or the other down by 4: the first one's tip is spared. */
    private static void pairFewestAtTip() {
        ReedBench x = alikePair();
        x.beat(1, -4, -4);
        int[] due = {1, 0, 0, 0, 1};
        for (int what = 0; what < 5; what++) {
            due("what " + what, x.pairWork(0, 1, 1, what), due[what]);
        }
    }

    /** The first down by 4 or the other up by 4: the first one's root is spared. */
    private static void pairFewestAtRoot() {
        ReedBench x = alikePair();
        x.beat(1, 4, 4);
        int[] due = {1, 0, 0, 1, 0};
        for (int what = 0; what < 5; what++) {
            due("what " + what, x.pairWork(0, 1, 1, what), due[what]);
        }
    }

    private static ReedBench alikePair() {
        ReedBench x = new ReedBench();
        x.rates(4, 10);
        x.reed(1000, 4, 5);
        x.reed(1000, 4, 5);
        x.want(2, 1000);
        x.want(3, 1000);
        return x;
    }

    private static void pairWorkOfAny() {
        ReedBench x = bench(BoundaryTests::busy);
        x.want(6, 2000);
        x.want(7, 3007);
        due("SET and SCRAPPED", x.pairWork(2, 3, 3, 0), 1);
        due("its tip", x.pairWork(2, 3, 3, 3), 1);
    }

    private static void pairWorkCannotBe() {
        ReedBench x = stiffPair();
        x.beat(2, 0, 0);
        for (int what = 0; what < 5; what++) {
            due("they don't BEAT, what " + what, x.pairWork(0, 1, 2, what), NONE);
        }
        x.beat(2, 1, 0);
        x.want(5, 5000);
        due("the other can't", x.pairWork(0, 1, 2, 0), NONE);
        x.want(5, 1000);
        x.want(4, 5000);
        due("the first can't", x.pairWork(0, 1, 2, 0), NONE);
    }

    private static void pairWorkOfTheSame() {
        ReedBench x = bench(BoundaryTests::full);
        for (int what = 0; what < 5; what++) {
            due("beating, what " + what, x.pairWork(6, 6, 0, what), NONE);
        }
        x.beat(0, 1, 0);
        due("not beating", x.pairWork(6, 6, 0, 0), NONE);
    }

    private static void pairWorkNoReed() {
        int[] none = {LOWEST, -1, 12, HIGHEST};
        for (int r : none) {
            due("first " + r, bench(BoundaryTests::full).pairWork(r, 1, 0, 0), NONE);
            due("other " + r, bench(BoundaryTests::full).pairWork(1, r, 0, 0), NONE);
            due("both " + r, bench(BoundaryTests::full).pairWork(r, r, 0, 0), NONE);
        }
        due("first, the next to come", bench(BoundaryTests::busy).pairWork(4, 1, 0, 0), NONE);
        due("other, the next to come", bench(BoundaryTests::busy).pairWork(0, 4, 0, 0), NONE);
    }

    private static void pairWorkNoPair() {
        int[] none = {LOWEST, -1, 4, 1 << 30, HIGHEST};
        for (int k : none) {
            due("PAIR " + k, bench(BoundaryTests::full).pairWork(0, 1, k, 0), NONE);
        }
    }

    private static void pairWorkHalfWanted() {
        for (int s = 0; s < 8; s++) {
            ReedBench x = bench(BoundaryTests::full);
            x.want(s, -1);
            for (int k = 0; k < 4; k++) {
                due("PAIR " + k + " without " + s, x.pairWork(6, 7, k, 0), k == s / 2 ? NONE : 0);
            }
        }
    }

    private static void pairWorkAnotherWhat() {
        int[] others = {LOWEST, -1, 5, 6, HIGHEST};
        for (int what : others) {
            due("what " + what, bench(BoundaryTests::full).pairWork(0, 1, 0, what), NONE);
        }
    }

    // ---- Promise 13

    private static void promise13() {
        test("13 no SLOT is WANTED: the empty LAY", BoundaryTests::bestOfNothing);
        test("13 all SLOTS, as many REEDS", BoundaryTests::bestOfAll);
        test("13 a REED too few", BoundaryTests::bestOneTooFew);
        test("13 a REED of its own", BoundaryTests::bestOfItsOwn);
        test("13 a FREE REED", BoundaryTests::bestOfFreeOnes);
        test("13 PAIRS that have to BEAT, as such", BoundaryTests::bestOfPairs);
        test("13 of several the lesser REED first", BoundaryTests::bestLesserFirst);
        test("13 of several in PAIRS", BoundaryTests::bestLesserFirstInPairs);
        test("13 REEDS 10 and 11", BoundaryTests::bestOfTheLast);
        test("13 NONE if it is not WANTED", BoundaryTests::bestNotWanted);
        test("13 NONE if there is no LAY", BoundaryTests::bestNoLay);
        test("13 another what", BoundaryTests::bestAnotherWhat);
    }

    private static void bestIs(ReedBench x, int strokes, int... reeds) {
        due("best(0)", x.best(0), strokes);
        for (int s = 0; s < 8; s++) {
            due("best(" + (10 + s) + ")", x.best(10 + s), s < reeds.length ? reeds[s] : NONE);
        }
    }

    private static void bestOfNothing() {
        bestIs(new ReedBench(), 0);
        ReedBench x = bench(BoundaryTests::full);
        wantAll(x, -1);
        bestIs(x, 0);
    }

    private static void bestOfAll() {
        ReedBench x = new ReedBench();
        stiff(x, 1700, 1600, 1500, 1400, 1300, 1200, 1100, 1000);
        for (int s = 0; s < 8; s++) {
            x.want(s, 1000 + 100 * s);
        }
        bestIs(x, 0, 7, 6, 5, 4, 3, 2, 1, 0);
        for (int k = 0; k < 4; k++) {
            x.beat(k, 100, 100);
        }
        bestIs(x, 0, 7, 6, 5, 4, 3, 2, 1, 0);
    }

    private static void bestOneTooFew() {
        ReedBench x = new ReedBench();
        stiff(x, 1000, 1000, 1000, 1000, 1000, 1000, 1000);
        wantAll(x, 1000);
        bestIs(x, NONE);
        x.want(3, -1);
        bestIs(x, 0, 0, 1, 2, NONE, 3, 4, 5, 6);
    }

    private static void bestOfItsOwn() {
        ReedBench x = new ReedBench();
        stiff(x, 1000);
        x.want(0, 1000);
        x.want(1, 1000);
        bestIs(x, NONE);
        x.beat(0, 0, 0);
        bestIs(x, NONE);
        x.beat(0, 1, 0);
        x.want(1, -1);
        x.want(2, 1000);
        bestIs(x, NONE);
    }

    private static void bestOfFreeOnes() {
        ReedBench x = new ReedBench();
        stiff(x, 1000, 1000);
        x.reed(1000, 1, 0);
        x.scrap(0);
        x.want(0, 1000);
        bestIs(x, 0, 1);
        x.make();
        x.want(0, 1000);
        bestIs(x, 0, 2);
        x.scrap(2);
        bestIs(x, NONE);
    }

    /** Alone each would do with no STROKE; beating takes one more, or can't be. */
    private static void bestOfPairs() {
        for (int k = 0; k < 4; k++) {
            ReedBench x = new ReedBench();
            x.reed(1000, 1, 0);
            x.reed(1000, 1, 1);
            x.rates(6, 6);
            x.want(2 * k, 1000);
            x.want(2 * k + 1, 1000);
            due("alone", x.best(0), 0);
            x.beat(k, 6, 6);
            due("beating", x.best(0), 1);
            due("first", x.best(10 + 2 * k), 0);
            due("other", x.best(11 + 2 * k), 1);
            x.beat(k, -6, -6);
            due("beating down, first", x.best(10 + 2 * k), 1);
            due("beating down, other", x.best(11 + 2 * k), 0);
            x.beat(k, 7, 7);
            due("can't BEAT", x.best(0), NONE);
            due("no REED then", x.best(10 + 2 * k), NONE);
        }
    }

    /** 0 in SLOT 0 takes two STROKES and 1 in SLOT 1 none, or the other way round two as well. */
    private static void bestLesserFirst() {
        ReedBench x = new ReedBench();
        x.rates(6, 0);
        x.reed(1000, 1, 9);
        x.reed(1012, 1, 9);
        x.want(0, 1012);
        x.want(1, 1012);
        bestIs(x, 2, 0, 1);
        x.want(1, -1);
        x.want(7, 1012);
        bestIs(x, 2, 0, NONE, NONE, NONE, NONE, NONE, NONE, 1);
        x.reed(1012, 1, 9);
        bestIs(x, 0, 1, NONE, NONE, NONE, NONE, NONE, NONE, 2);
    }

    private static void bestLesserFirstInPairs() {
        ReedBench x = new ReedBench();
        stiff(x, 1000, 1003, 1003, 1000);
        x.want(6, 1000);
        x.want(7, 1000);
        x.beat(3, 3, 3);
        due("LAYS", x.lays(), 4);
        bestIs(x, 0, NONE, NONE, NONE, NONE, NONE, NONE, 0, 1);
        x.beat(3, -3, -3);
        bestIs(x, 0, NONE, NONE, NONE, NONE, NONE, NONE, 1, 0);
        x.beat(3, 0, 0);
        bestIs(x, 0, NONE, NONE, NONE, NONE, NONE, NONE, 0, 3);
        x.want(0, 1000);
        bestIs(x, 0, 0, NONE, NONE, NONE, NONE, NONE, 1, 2);
    }

    private static void bestOfTheLast() {
        ReedBench x = new ReedBench();
        for (int r = 0; r < 10; r++) {
            x.reed(5000, 1, 0);
        }
        stiff(x, 1000, 1003);
        x.want(0, 1000);
        x.want(1, 1000);
        bestIs(x, 0, 10, 11);
        x.beat(0, -3, -3);
        bestIs(x, 0, 11, 10);
    }

    private static void bestNotWanted() {
        ReedBench x = bench(BoundaryTests::full);
        for (int s = 7; s >= 0; s--) {
            x.want(s, -1);
            for (int t = 0; t < 8; t++) {
                due("best(" + (10 + t) + ")", x.best(10 + t) == NONE, t >= s);
            }
        }
    }

    private static void bestNoLay() {
        ReedBench x = bench(BoundaryTests::full);
        x.want(7, 9999);
        bestIs(x, NONE);
        ReedBench y = new ReedBench();
        y.want(0, 0);
        bestIs(y, NONE);
    }

    private static void bestAnotherWhat() {
        int[] others = {LOWEST, -1, 1, 2, 3, 4, 5, 6, 7, 8, 9, 18, 19, 20, HIGHEST};
        ReedBench x = bench(BoundaryTests::full);
        for (int what : others) {
            due("best(" + what + ")", x.best(what), NONE);
        }
    }

    // ---- Promise 14

    private static void promise14() {
        test("14 no SLOT is WANTED: the empty LAY", BoundaryTests::laysOfNothing);
        test("14 the most there can be", BoundaryTests::laysMost);
        test("14 only those with as few STROKES", BoundaryTests::laysOfTheFewest);
        test("14 0 if there is none", BoundaryTests::laysNone);
    }

    private static void laysOfNothing() {
        due("new", new ReedBench().lays(), 1);
        ReedBench x = bench(BoundaryTests::full);
        wantAll(x, -1);
        due("12 REEDS", x.lays(), 1);
    }

    private static void laysMost() {
        ReedBench x = new ReedBench();
        for (int r = 0; r < 12; r++) {
            x.reed(1000, 1, 0);
        }
        wantAll(x, 1000);
        due("apart", x.lays(), 19958400);
        for (int k = 0; k < 4; k++) {
            x.beat(k, 0, 0);
        }
        due("in PAIRS", x.lays(), 19958400);
    }

    private static void laysOfTheFewest() {
        ReedBench x = new ReedBench();
        x.rates(6, 0);
        x.reed(1000, 1, 1);
        x.reed(1000, 1, 1);
        x.reed(1006, 1, 1);
        x.want(0, 1006);
        due("with none", x.lays(), 1);
        x.scrap(2);
        due("with one", x.lays(), 2);
        x.want(1, 1000);
        due("with one, two SLOTS", x.lays(), 2);
        x.beat(0, -6, -6);
        due("as a PAIR", x.lays(), 2);
    }

    private static void laysNone() {
        ReedBench x = new ReedBench();
        x.want(0, 0);
        due("no REEDS", x.lays(), 0);
        ReedBench y = bench(BoundaryTests::full);
        y.want(7, 9999);
        due("none can do it", y.lays(), 0);
        y.want(7, 1006);
        y.beat(3, 100, 100);
        due("none can BEAT so", y.lays(), 0);
        ReedBench z = stiffPair();
        z.beat(2, 11, 100);
        due("two can't BEAT so", z.lays(), 0);
        due("nor is there a BEST", z.best(0), NONE);
    }

    // ---- Promise 15

    private static void promise15() {
        test("15 no SLOT is WANTED", BoundaryTests::makeOfNothing);
        test("15 there is no LAY", BoundaryTests::makeNoLay);
        test("15 its number (0, 1, ..)", BoundaryTests::makeTwelvePlates);
        test("15 a plate of one SLOT", BoundaryTests::makeEachSlot);
        test("15 a plate of all SLOTS", BoundaryTests::makeAllSlots);
        test("15 a plate of one PAIR", BoundaryTests::makeEachPair);
        test("15 no SLOT is WANTED any more", BoundaryTests::makeWantsNoMore);
        test("15 REEDS that are not laid stay", BoundaryTests::makeLeavesOthers);
    }

    private static void makeOfNothing() {
        refused(BoundaryTests::empty, ReedBench::make, NONE);
        refused(x -> {
            full(x);
            x.make();
        }, ReedBench::make, NONE);
    }

    private static void makeNoLay() {
        refused(x -> x.want(0, 0), ReedBench::make, NONE);
        refused(x -> {
            full(x);
            x.want(7, 9999);
        }, ReedBench::make, NONE);
        refused(x -> {
            full(x);
            x.beat(3, 100, 100);
        }, ReedBench::make, NONE);
    }

    private static void makeTwelvePlates() {
        ReedBench x = new ReedBench();
        for (int r = 0; r < 12; r++) {
            x.reed(1000, 1, 0);
        }
        for (int plate = 0; plate < 12; plate++) {
            x.want(plate % 8, 1000);
            due("make()", x.make(), plate);
            due("REED", x.of(plate, 3), 1);
            due("plate", x.of(plate, 4), plate);
            due("SLOT", x.of(plate, 5), plate % 8);
            due("refused, no number is lost", x.make(), NONE);
        }
        x.want(0, 1000);
        due("no REED is left", x.make(), NONE);
    }

    private static void makeEachSlot() {
        for (int s = 0; s < 8; s++) {
            ReedBench x = new ReedBench();
            x.rates(20, 0);
            x.reed(1000, 3, 2);
            x.want(s, 1000 + 20 - 3 - 2);
            due("make()", x.make(), 0);
            int[] due = {1015, 1, 1, 1, 0, s, 3};
            for (int what = 0; what < 7; what++) {
                due("SLOT " + s + " of(0, " + what + ")", x.of(0, what), due[what]);
            }
        }
    }

    private static void makeAllSlots() {
        ReedBench x = new ReedBench();
        x.rates(7, 0);
        for (int r = 0; r < 8; r++) {
            x.reed(1000 + 100 * r, 1, r);
        }
        for (int s = 0; s < 8; s++) {
            x.want(s, 1000 + 100 * (7 - s) + 7 * (7 - s));
        }
        due("best(0)", x.best(0), 28);
        due("make()", x.make(), 0);
        for (int r = 0; r < 8; r++) {
            int[] due = {1000 + 107 * r, 1, 0, 1, 0, 7 - r, r};
            for (int what = 0; what < 7; what++) {
                due("of(" + r + ", " + what + ")", x.of(r, what), due[what]);
            }
        }
    }

    /** Beating takes other STROKES than each SLOT alone would. */
    private static void makeEachPair() {
        for (int k = 0; k < 4; k++) {
            ReedBench x = new ReedBench();
            x.reed(1000, 3, 5);
            x.reed(1000, 3, 5);
            x.want(2 * k, 1000);
            x.want(2 * k + 1, 1000);
            x.beat(k, 8, 8);
            due("make()", x.make(), 0);
            int[] first = {995, 1, 5, 1, 0, 2 * k, 2};
            int[] other = {1003, 2, 4, 1, 0, 2 * k + 1, 2};
            for (int what = 0; what < 7; what++) {
                due("PAIR " + k + " of(0, " + what + ")", x.of(0, what), first[what]);
                due("PAIR " + k + " of(1, " + what + ")", x.of(1, what), other[what]);
            }
        }
    }

    private static void makeWantsNoMore() {
        ReedBench x = bench(BoundaryTests::full);
        due("make()", x.make(), 0);
        due("look(4)", x.look(4), 0);
        for (int s = 0; s < 8; s++) {
            due("look(" + (10 + s) + ")", x.look(10 + s), NONE);
            due("best(" + (10 + s) + ")", x.best(10 + s), NONE);
        }
        due("the empty LAY is left", x.best(0), 0);
        due("one LAY", x.lays(), 1);
        due("nothing lacks", x.lacks(), 0);
    }

    private static void makeLeavesOthers() {
        ReedBench x = bench(BoundaryTests::full);
        x.scrap(11);
        due("make()", x.make(), 0);
        due("FREE", x.look(1), 3);
        due("SCRAPPED stays", x.of(11, 3), 2);
        int set = 0;
        for (int r = 0; r < 12; r++) {
            boolean laid = x.of(r, 3) == 1;
            set += bit(laid);
            due("plate of " + r, x.of(r, 4), laid ? 0 : NONE);
            due("SLOT of " + r, x.of(r, 5) == NONE, !laid);
            due("STROKES of " + r, laid || x.of(r, 6) == 0, true);
        }
        due("SET", set, 8);
    }

    // ---- Promise 16

    private static void promise16() {
        test("16 no SLOT is WANTED", BoundaryTests::lacksNothingWanted);
        test("16 all must be left out", BoundaryTests::lacksAll);
        test("16 none must be left out", BoundaryTests::lacksNone);
        test("16 a single one", BoundaryTests::lacksEachSlot);
        test("16 all but one: the least number", BoundaryTests::lacksAllButOne);
        test("16 the fewest goes ahead of the least number", BoundaryTests::lacksFewestFirst);
        test("16 one of a PAIR that can't BEAT", BoundaryTests::lacksOneOfPair);
        test("16 PAIRS that can BEAT", BoundaryTests::lacksOfSomePairs);
        test("16 only FREE REEDS", BoundaryTests::lacksOfFreeOnes);
        test("16 nothing is changed by it", BoundaryTests::lacksChangesNothing);
    }

    private static void lacksNothingWanted() {
        due("new", new ReedBench().lacks(), 0);
        ReedBench x = bench(BoundaryTests::full);
        wantAll(x, -1);
        due("12 REEDS", x.lacks(), 0);
    }

    private static void lacksAll() {
        ReedBench x = new ReedBench();
        wantAll(x, 1000);
        due("no REEDS", x.lacks(), 255);
        stiff(x, 2000, 2000, 2000, 2000, 2000, 2000, 2000, 2000);
        due("none can do it", x.lacks(), 255);
        for (int k = 0; k < 4; k++) {
            x.beat(k, 0, 0);
        }
        due("nor in PAIRS", x.lacks(), 255);
        x.want(0, -1);
        x.want(7, -1);
        due("only WANTED ones", x.lacks(), 126);
    }

    private static void lacksNone() {
        due("full", bench(BoundaryTests::full).lacks(), 0);
        due("busy", bench(BoundaryTests::busy).lacks(), 0);
    }

    private static void lacksEachSlot() {
        for (int s = 0; s < 8; s++) {
            ReedBench x = bench(BoundaryTests::full);
            x.want(s, 9999);
            due("SLOT " + s, x.lacks(), 1 << s);
        }
    }

    private static void lacksAllButOne() {
        ReedBench x = new ReedBench();
        stiff(x, 1000);
        wantAll(x, 1000);
        due("apart", x.lacks(), 127);
        for (int k = 0; k < 4; k++) {
            x.beat(k, 0, 0);
        }
        due("in PAIRS", x.lacks(), 127);
        stiff(x, 1000);
        due("two REEDS", x.lacks(), 63);
        x.beat(3, 1, 1);
        due("the last PAIR can't BEAT", x.lacks(), 95);
    }

    /** Leaving out SLOT 7 is one; 0 and 1 would be less as a number, but two. */
    private static void lacksFewestFirst() {
        ReedBench x = new ReedBench();
        x.rates(6, 0);
        stiff(x, 1000, 1100);
        x.want(0, 1000);
        x.want(1, 1100);
        x.want(7, 1200);
        due("one, not two", x.lacks(), 128);
        x.want(7, 1000);
        due("of one the least", x.lacks(), 1);
    }

    private static void lacksOneOfPair() {
        for (int k = 0; k < 4; k++) {
            ReedBench x = new ReedBench();
            stiff(x, 1000, 1000);
            x.want(2 * k, 1000);
            x.want(2 * k + 1, 1000);
            x.beat(k, 1, 2);
            due("either: the lesser", x.lacks(), 1 << 2 * k);
            x.want(2 * k + 1, 5000);
            due("the other", x.lacks(), 2 << 2 * k);
            x.want(2 * k, 5000);
            due("both", x.lacks(), 3 << 2 * k);
        }
    }

    /** PAIRS that can BEAT are kept whole where another SLOT can't be. */
    private static void lacksOfSomePairs() {
        ReedBench x = new ReedBench();
        stiff(x, 1000, 1003, 2000, 2003, 3000, 3003, 4000, 4004);
        for (int s = 0; s < 8; s++) {
            x.want(s, 1000 * (1 + s / 2));
        }
        for (int k = 0; k < 4; k++) {
            x.beat(k, 3, 3);
        }
        due("the last can't", x.lacks(), 64);
        x.beat(0, -3, -3);
        x.beat(3, 4, 4);
        due("the first turned round can", x.lacks(), 0);
        x.beat(1, 4, 4);
        x.beat(2, -2, 2);
        due("the middle ones can't", x.lacks(), 4 + 16);
        x.scrap(0);
        due("nor the first", x.lacks(), 1 + 4 + 16);
    }

    private static void lacksOfFreeOnes() {
        ReedBench x = new ReedBench();
        stiff(x, 1000, 1000, 1000);
        x.scrap(0);
        x.want(0, 1000);
        x.make();
        x.want(3, 1000);
        x.want(5, 1000);
        due("one is FREE", x.lacks(), 8);
        x.scrap(2);
        due("none is FREE", x.lacks(), 40);
    }

    private static void lacksChangesNothing() {
        Script short7 = x -> {
            full(x);
            x.want(7, 9999);
        };
        refused(short7, ReedBench::lacks, 128);
        refused(BoundaryTests::full, ReedBench::lacks, 0);
        ReedBench x = bench(BoundaryTests::full);
        int strokes = x.best(0);
        x.lacks();
        due("best(0) behind lacks()", x.best(0), strokes);
        due("make() behind lacks()", x.make(), 0);
    }

    // ---- Promise 17

    private static void promise17() {
        test("17 false if there is none", BoundaryTests::undoOfNothing);
        test("17 as ahead of reed()", () -> undone(x -> x.reed(5, 5, 5)));
        test("17 as ahead of scrap()", () -> undone(x -> bit(x.scrap(1))));
        test("17 as ahead of rates()", () -> undone(x -> bit(x.rates(20, 50))));
        test("17 as ahead of want()", () -> undone(x -> bit(x.want(0, 1001))));
        test("17 as ahead of want() with -1", () -> undone(x -> bit(x.want(1, -1))));
        test("17 as ahead of tuning()", () -> undone(x -> bit(x.tuning(2, 8000))));
        test("17 as ahead of beat()", () -> undone(x -> bit(x.beat(0, 3, 4))));
        test("17 as ahead of beat() with low above high", () -> undone(x -> bit(x.beat(0, 1, 0))));
        test("17 as ahead of file()", () -> undone(x -> x.file(1, 3, 5)));
        test("17 as ahead of make()", () -> undone(ReedBench::make));
        test("17 the latest 6 are kept", BoundaryTests::undoSix);
        test("17 as many as were done, up to 6", BoundaryTests::undoAsMany);
        test("17 fewer are kept behind undo()", BoundaryTests::undoAndGoOn);
        test("17 undo() itself is not taken back", BoundaryTests::undoIsNoCall);
        test("17 a call without a difference was done", BoundaryTests::undoOfNoDifference);
        test("17 calls that only ask are not taken back", BoundaryTests::undoSkipsAsking);
        test("17 refused calls are not taken back", BoundaryTests::undoSkipsRefused);
        test("17 what is asked then is asked anew", BoundaryTests::undoAsksAnew);
    }

    private static void undoOfNothing() {
        refused(BoundaryTests::empty, x -> bit(x.undo()), 0);
        Script spent = x -> {
            busy(x);
            for (int n = 0; n < KEPT; n++) {
                x.undo();
            }
        };
        refused(spent, x -> bit(x.undo()), 0);
    }

    private static void undone(Call call) {
        List<Integer> before = all(bench(BoundaryTests::busy), 0);
        ReedBench x = bench(BoundaryTests::busy);
        call.on(x);
        due("undo()", x.undo(), true);
        if (!all(x, 0).equals(before)) {
            fault("not all is as ahead of it");
        }
        ReedBench y = bench(BoundaryTests::busy);
        call.on(y);
        if (all(y, 0).equals(before)) {
            fault("the call did nothing");
        }
    }

    private static void undoSix() {
        for (int calls = 6; calls <= 12; calls++) {
            ReedBench x = new ReedBench();
            for (int n = 0; n < calls; n++) {
                x.reed(n, 1, 0);
            }
            for (int n = 1; n <= 6; n++) {
                due("undo " + n + " of " + calls, x.undo(), true);
                due("look(0)", x.look(0), calls - n);
            }
            due("the seventh undo of " + calls, x.undo(), false);
            due("look(0) at last", x.look(0), calls - 6);
        }
    }

    private static void undoAsMany() {
        for (int calls = 1; calls < 6; calls++) {
            ReedBench x = new ReedBench();
            for (int n = 0; n < calls; n++) {
                x.want(n, 100);
            }
            for (int n = 1; n <= calls; n++) {
                due("undo " + n + " of " + calls, x.undo(), true);
                due("look(4)", x.look(4), (1 << calls - n) - 1);
            }
            due("one undo more than " + calls, x.undo(), false);
        }
    }

    private static void undoAndGoOn() {
        ReedBench x = new ReedBench();
        for (int n = 1; n <= 8; n++) {
            x.rates(n, n);
        }
        for (int n = 0; n < 4; n++) {
            x.undo();
        }
        due("at the fourth", x.look(2), 4);
        x.rates(11, 11);
        for (int n = 4; n >= 2; n--) {
            due("undo()", x.undo(), true);
            due("look(2)", x.look(2), n);
            due("look(3)", x.look(3), n);
        }
        due("none is kept", x.undo(), false);
        for (int n = 11; n <= 17; n++) {
            x.rates(n, n);
        }
        for (int n = 16; n >= 11; n--) {
            due("undo() again", x.undo(), true);
            due("look(2)", x.look(2), n);
        }
        due("6 again", x.undo(), false);
    }

    private static void undoIsNoCall() {
        ReedBench x = new ReedBench();
        x.want(0, 100);
        x.want(0, 200);
        due("undo()", x.undo(), true);
        due("look(10)", x.look(10), 100);
        due("undo() once more", x.undo(), true);
        due("look(10)", x.look(10), NONE);
        due("none", x.undo(), false);
    }

    private static void undoOfNoDifference() {
        Call[] calls = {
            x -> bit(x.rates(7, 4)), x -> bit(x.want(0, 1000)), x -> bit(x.want(2, -1)),
            x -> bit(x.beat(0, -20, 20)), x -> bit(x.beat(1, 1, 0)), x -> x.file(1, 0, 0)};
        for (Call call : calls) {
            ReedBench x = bench(BoundaryTests::busy);
            call.on(x);
            due("undo() of it", x.undo(), true);
            due("the STROKES ahead of it stay", x.of(0, 6), 2);
            due("undo() of those", x.undo(), true);
            due("they don't stay", x.of(0, 6), 0);
        }
    }

    private static void undoSkipsAsking() {
        refused(BoundaryTests::busy, x -> x.look(0), 4);
        refused(BoundaryTests::busy, x -> x.of(0, 6), 2);
        refused(BoundaryTests::busy, x -> x.work(0, 0, 0), 0);
        refused(BoundaryTests::busy, x -> x.pairWork(0, 1, 0, 0), 0);
        refused(BoundaryTests::busy, x -> x.best(0), 0);
        refused(BoundaryTests::busy, x -> x.lays(), 1);
        refused(BoundaryTests::busy, x -> x.lacks(), 0);
    }

    private static void undoSkipsRefused() {
        ReedBench x = new ReedBench();
        x.reed(1000, 2, 2);
        for (int n = 0; n < 7; n++) {
            x.reed(-1, 1, 0);
            x.scrap(1);
            x.rates(0, 0);
            x.want(8, 0);
            x.tuning(3, 0);
            x.beat(4, 0, 0);
            x.file(0, 3, 0);
            x.make();
        }
        due("the REED is taken back", x.undo(), true);
        due("look(0)", x.look(0), 0);
        due("none is left", x.undo(), false);
    }

    /** BEST was asked on both sides of the change, so what was found must not be kept. */
    private static void undoAsksAnew() {
        ReedBench x = new ReedBench();
        x.rates(6, 0);
        x.reed(1000, 1, 9);
        x.want(0, 1006);
        bestIs(x, 1, 0);
        x.want(0, 1012);
        bestIs(x, 2, 0);
        due("undo()", x.undo(), true);
        bestIs(x, 1, 0);
        due("lays()", x.lays(), 1);
        x.scrap(0);
        due("lacks()", x.lacks(), 1);
        due("undo()", x.undo(), true);
        due("lacks() then", x.lacks(), 0);
        due("make()", x.make(), 0);
        bestIs(x, 0);
        due("undo()", x.undo(), true);
        bestIs(x, 1, 0);
    }

    // ---- the 512 calls

    private static void usedFor512Calls() {
        ReedBench x = new ReedBench();
        for (int n = 0; n < 64; n++) {
            due("reed", x.reed(1000, 5, 5), 0);
            due("want", x.want(7, 1012), true);
            due("make", x.make(), 0);
            due("of", x.of(0, 0), 1012);
            due("undo", x.undo(), true);
            due("best", x.best(0), 2);
            due("undo", x.undo(), true);
            due("undo", x.undo(), true);
        }
    }
}
