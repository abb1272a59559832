// Each promise by hand: ordinary calls, the edges that the document names, and wrong inputs.
public final class PromiseTests {
    private static final int NO_PITCH = -100000;
    private static final int NO_LOOK = -1001;
    private static int wrong = 0;

    public static void main(String[] args) {
        newObject();
        reed();
        scrap();
        rates();
        want();
        tuning();
        beat();
        file();
        look();
        of();
        work();
        pairWork();
        pairWorkOrder();
        best();
        lays();
        make();
        makePairs();
        lacks();
        lacksOfPairs();
        undo();
        undoOfEveryCall();
        System.out.println(wrong == 0 ? "all answers are as due" : wrong + " answers are not as due");
        if (wrong != 0) {
            System.exit(1);
        }
    }

    private static void due(String what, int got, int want) {
        if (got != want) {
            wrong++;
            System.out.println(what + " answered " + got + ", due is " + want);
        }
    }

    private static void due(String what, boolean got, boolean want) {
        due(what, got ? 1 : 0, want ? 1 : 0);
    }

    private static void newObject() {
        ReedBench x = new ReedBench();
        due("1 NONE", ReedBench.NONE, -1);
        due("1 no reeds", x.look(0), 0);
        due("1 no free ones", x.look(1), 0);
        due("1 rise", x.look(2), 6);
        due("1 off", x.look(3), 5);
        due("1 no slot is wanted", x.look(4), 0);
        due("1 no plates", x.look(5), 0);
        for (int s = 0; s < 8; s++) {
            due("1 slot " + s, x.look(10 + s), -1);
            due("1 beat bound " + s, x.look(20 + s), NO_LOOK);
            due("1 best of slot " + s, x.best(10 + s), -1);
        }
        due("1 the empty lay", x.best(0), 0);
        due("1 one lay", x.lays(), 1);
        due("1 nothing lacks", x.lacks(), 0);
        due("1 nothing to undo", x.undo(), false);
    }

    private static void reed() {
        ReedBench x = new ReedBench();
        due("2 least", x.reed(0, 1, 0), 0);
        due("2 most", x.reed(9999, 20, 20), 1);
        due("2 pitch below", x.reed(-1, 5, 5), -1);
        due("2 pitch above", x.reed(10000, 5, 5), -1);
        due("2 thickness below", x.reed(5, 0, 5), -1);
        due("2 thickness above", x.reed(5, 21, 5), -1);
        due("2 tip below", x.reed(5, 5, -1), -1);
        due("2 tip above", x.reed(5, 5, 21), -1);
        due("2 refused ones don't count", x.look(0), 2);
        for (int r = 2; r < 12; r++) {
            due("2 number", x.reed(100 * r, r, r), r);
        }
        due("2 a thirteenth", x.reed(5, 5, 5), -1);
        due("2 came", x.look(0), 12);
        due("2 scrapped ones came too", x.scrap(3), true);
        due("2 still a thirteenth", x.reed(5, 5, 5), -1);
        due("2 pitch", x.of(1, 0), 9999);
        due("2 thickness", x.of(1, 1), 20);
        due("2 tip", x.of(1, 2), 20);
        due("2 a number comes again behind undo", x.undo() && x.undo(), true);
        due("2 the twelfth again", x.reed(7, 7, 7), 11);
        due("2 its pitch", x.of(11, 0), 7);
    }

    private static void scrap() {
        ReedBench x = new ReedBench();
        due("3 none came", x.scrap(0), false);
        x.reed(1000, 5, 5);
        x.reed(2000, 5, 5);
        due("3 below", x.scrap(-1), false);
        due("3 above", x.scrap(2), false);
        due("3 far above", x.scrap(12), false);
        due("3 free", x.scrap(1), true);
        due("3 place", x.of(1, 3), 2);
        due("3 again", x.scrap(1), false);
        due("3 free ones", x.look(1), 1);
        due("3 came", x.look(0), 2);
        x.want(0, 1000);
        due("3 made", x.make(), 0);
        due("3 set", x.scrap(0), false);
        due("3 place of the set one", x.of(0, 3), 1);
    }

    private static void rates() {
        ReedBench x = new ReedBench();
        due("4 rise below", x.rates(0, 5), false);
        due("4 rise above", x.rates(21, 5), false);
        due("4 off below", x.rates(6, -1), false);
        due("4 off above", x.rates(6, 51), false);
        due("4 rise unchanged", x.look(2), 6);
        due("4 off unchanged", x.look(3), 5);
        due("4 least", x.rates(1, 0), true);
        due("4 rise", x.look(2), 1);
        due("4 off", x.look(3), 0);
        due("4 most", x.rates(20, 50), true);
        x.reed(1000, 2, 2);
        due("4 rise counts", x.file(0, 1, 0), 1020);
        x.want(0, 1070);
        due("4 off counts", x.work(0, 0, 0), 0);
        x.want(0, 1071);
        due("4 off ends", x.work(0, 0, 0), 1);
    }

    private static void want() {
        ReedBench x = new ReedBench();
        due("5 slot below", x.want(-1, 5), false);
        due("5 slot above", x.want(8, 5), false);
        due("5 pitch below", x.want(0, -2), false);
        due("5 pitch above", x.want(0, 10000), false);
        due("5 nothing wanted", x.look(4), 0);
        due("5 least", x.want(0, 0), true);
        due("5 most", x.want(7, 9999), true);
        due("5 set", x.look(4), 129);
        due("5 pitch 0", x.look(10), 0);
        due("5 pitch 9999", x.look(17), 9999);
        due("5 another pitch", x.want(7, 4), true);
        due("5 is taken", x.look(17), 4);
        due("5 not wanted", x.want(0, -1), true);
        due("5 set then", x.look(4), 128);
        due("5 no pitch then", x.look(10), -1);
        due("5 not wanted twice", x.want(0, -1), true);
    }

    private static void tuning() {
        int[][] above = {
            {0, 200, 400, 500, 700, 900, 1100, 1200},
            {0, 204, 386, 498, 702, 884, 1088, 1200},
            {0, 0, 400, 400, 700, 700, 1200, 1200}};
        ReedBench x = new ReedBench();
        due("6 kind below", x.tuning(-1, 0), false);
        due("6 kind above", x.tuning(3, 0), false);
        due("6 key below", x.tuning(0, -1), false);
        due("6 key above", x.tuning(0, 8001), false);
        due("6 nothing wanted", x.look(4), 0);
        int[] keys = {0, 8000, 4321};
        for (int kind = 0; kind < 3; kind++) {
            for (int key : keys) {
                due("6 done", x.tuning(kind, key), true);
                due("6 set", x.look(4), 255);
                for (int s = 0; s < 8; s++) {
                    due("6 kind " + kind + " slot " + s, x.look(10 + s), key + above[kind][s]);
                }
            }
        }
    }

    private static void beat() {
        ReedBench x = new ReedBench();
        due("7 pair below", x.beat(-1, 0, 0), false);
        due("7 pair above", x.beat(4, 0, 0), false);
        due("7 low below", x.beat(0, -101, 0), false);
        due("7 low above", x.beat(0, 101, 0), false);
        due("7 high below", x.beat(0, 0, -101), false);
        due("7 high above", x.beat(0, 0, 101), false);
        due("7 unchanged", x.look(20), NO_LOOK);
        due("7 widest", x.beat(3, -100, 100), true);
        due("7 low", x.look(26), -100);
        due("7 high", x.look(27), 100);
        due("7 others unchanged", x.look(24), NO_LOOK);
        due("7 narrow", x.beat(3, 7, 7), true);
        due("7 low then", x.look(26), 7);
        due("7 high then", x.look(27), 7);
        due("7 low above high", x.beat(3, 100, -100), true);
        due("7 need not low", x.look(26), NO_LOOK);
        due("7 need not high", x.look(27), NO_LOOK);
        x.beat(0, 50, 60);
        x.reed(1000, 1, 0);
        x.want(0, 1000);
        due("7 a pair half wanted does not beat", x.best(0), 0);
        x.reed(1000, 1, 0);
        x.want(1, 1000);
        due("7 wanted both it does", x.best(0), -1);
    }

    private static void file() {
        ReedBench x = new ReedBench();
        due("8 none came", x.file(0, 0, 0), NO_PITCH);
        x.reed(10, 5, 3);
        due("8 below", x.file(-1, 0, 0), NO_PITCH);
        due("8 above", x.file(1, 0, 0), NO_PITCH);
        due("8 tip below", x.file(0, -1, 0), NO_PITCH);
        due("8 tip above", x.file(0, 4, 0), NO_PITCH);
        due("8 root below", x.file(0, 0, -1), NO_PITCH);
        due("8 root above", x.file(0, 0, 5), NO_PITCH);
        due("8 untouched", x.of(0, 6), 0);
        due("8 no strokes", x.file(0, 0, 0), 10);
        due("8 below 0", x.file(0, 0, 4), 10 - 5 - 4 - 3 - 2);
        due("8 thickness", x.of(0, 1), 1);
        due("8 no more at the root", x.file(0, 0, 1), NO_PITCH);
        due("8 all at the tip", x.file(0, 3, 0), 14);
        due("8 tip", x.of(0, 2), 0);
        due("8 strokes", x.of(0, 6), 7);
        due("8 no more at the tip", x.file(0, 1, 0), NO_PITCH);
        x.scrap(0);
        due("8 scrapped", x.file(0, 0, 0), NO_PITCH);
        x.reed(9999, 1, 20);
        due("8 above 9999", x.file(1, 20, 0), 10119);
        x.reed(500, 4, 4);
        x.want(0, 500);
        x.make();
        due("8 set", x.file(2, 0, 0), NO_PITCH);
    }

    private static void look() {
        ReedBench x = new ReedBench();
        x.reed(1000, 5, 5);
        x.reed(2000, 5, 5);
        x.reed(3000, 5, 5);
        x.scrap(1);
        x.want(2, 1000);
        x.make();
        x.want(5, 77);
        x.beat(1, -3, 9);
        x.rates(9, 8);
        due("9 came", x.look(0), 3);
        due("9 free", x.look(1), 1);
        due("9 rise", x.look(2), 9);
        due("9 off", x.look(3), 8);
        due("9 wanted", x.look(4), 32);
        due("9 made", x.look(5), 1);
        due("9 wanted pitch", x.look(15), 77);
        due("9 not wanted", x.look(12), -1);
        due("9 low", x.look(22), -3);
        due("9 high", x.look(23), 9);
        int[] none = {-1, 6, 9, 18, 19, 20, 21, 24, 27, 28, 29, Integer.MIN_VALUE, Integer.MAX_VALUE};
        for (int what : none) {
            due("9 none such " + what, x.look(what), NO_LOOK);
        }
    }

    private static void of() {
        ReedBench x = new ReedBench();
        due("10 none came", x.of(0, 0), NO_PITCH);
        x.reed(1000, 7, 4);
        int[] first = {1000, 7, 4, 0, -1, -1, 0};
        for (int what = 0; what < 7; what++) {
            due("10 at first " + what, x.of(0, what), first[what]);
        }
        x.file(0, 1, 2);
        x.want(6, 980);
        due("10 made", x.make(), 0);
        int[] then = {1000 + 6 - 7 - 6 - 5 - 4, 3, 3, 1, 0, 6, 5};
        for (int what = 0; what < 7; what++) {
            due("10 then " + what, x.of(0, what), then[what]);
        }
        due("10 what below", x.of(0, -1), NO_PITCH);
        due("10 what above", x.of(0, 7), NO_PITCH);
        due("10 reed below", x.of(-1, 0), NO_PITCH);
        due("10 reed above", x.of(1, 0), NO_PITCH);
        due("10 reed far above", x.of(12, 3), NO_PITCH);
    }

    private static void work() {
        ReedBench x = new ReedBench();
        x.reed(1000, 6, 3);
        x.want(0, 1005);
        due("11 at the edge of off", x.work(0, 0, 0), 0);
        x.want(0, 1006);
        due("11 beyond it", x.work(0, 0, 1), 1);
        x.want(0, 995);
        due("11 at the lower edge", x.work(0, 0, 0), 0);
        x.want(0, 994);
        due("11 beyond the lower", x.work(0, 0, 2), 1);
        x.rates(6, 0);
        x.want(0, 1001);
        due("11 up and down: strokes", x.work(0, 0, 0), 4);
        due("11 up and down: tip", x.work(0, 0, 1), 2);
        due("11 up and down: root", x.work(0, 0, 2), 2);
        x.want(0, 1019);
        due("11 can't be done", x.work(0, 0, 0), -1);
        due("11 nor tip", x.work(0, 0, 1), -1);
        due("11 slot not wanted", x.work(0, 1, 0), -1);
        due("11 slot below", x.work(0, -1, 0), -1);
        due("11 slot above", x.work(0, 8, 0), -1);
        due("11 reed below", x.work(-1, 0, 0), -1);
        due("11 reed above", x.work(1, 0, 0), -1);
        x.want(0, 1000);
        due("11 what below", x.work(0, 0, -1), -1);
        due("11 what above", x.work(0, 0, 3), -1);
        x.scrap(0);
        due("11 any that came", x.work(0, 0, 0), 0);
        ReedBench y = new ReedBench();
        y.rates(1, 4);
        y.reed(1000, 10, 10);
        y.reed(1030, 20, 10);
        y.want(0, 1020);
        due("11 down and up: strokes", y.work(1, 0, 0), 7);
        due("11 down and up: tip", y.work(1, 0, 1), 6);
        due("11 down and up: root", y.work(1, 0, 2), 1);
        y.rates(20, 0);
        y.want(0, 1021);
        due("11 tip 2 with root 2, not tip 1 with more", y.work(0, 0, 0), 4);
        due("11 its tip", y.work(0, 0, 1), 2);
    }

    private static void pairWork() {
        ReedBench x = new ReedBench();
        x.reed(1000, 3, 5);
        x.reed(1000, 3, 5);
        x.want(0, 1000);
        due("12 half wanted", x.pairWork(0, 1, 0, 0), -1);
        x.want(1, 1000);
        due("12 need not beat", x.pairWork(0, 1, 0, 0), 0);
        x.beat(0, 8, 8);
        // 6 up alone is beyond off, so the first goes down to 995 and the other to 1003.
        due("12 can be", x.pairWork(0, 1, 0, 0), 4);
        due("12 first tip", x.pairWork(0, 1, 0, 1), 0);
        due("12 first root", x.pairWork(0, 1, 0, 2), 2);
        due("12 other tip", x.pairWork(0, 1, 0, 3), 1);
        due("12 other root", x.pairWork(0, 1, 0, 4), 1);
        x.beat(0, 11, 100);
        due("12 both off by 5", x.pairWork(0, 1, 0, 0), -1);
        x.beat(0, -100, -11);
        due("12 below likewise", x.pairWork(0, 1, 0, 0), -1);
        x.beat(0, 0, 0);
        due("12 same reed", x.pairWork(1, 1, 0, 0), -1);
        due("12 first below", x.pairWork(-1, 1, 0, 0), -1);
        due("12 first above", x.pairWork(2, 1, 0, 0), -1);
        due("12 other below", x.pairWork(0, -1, 0, 0), -1);
        due("12 other above", x.pairWork(0, 2, 0, 0), -1);
        due("12 pair below", x.pairWork(0, 1, -1, 0), -1);
        due("12 pair above", x.pairWork(0, 1, 4, 0), -1);
        due("12 pair far above", x.pairWork(0, 1, Integer.MAX_VALUE, 0), -1);
        due("12 pair not wanted", x.pairWork(0, 1, 1, 0), -1);
        due("12 what below", x.pairWork(0, 1, 0, -1), -1);
        due("12 what above", x.pairWork(0, 1, 0, 5), -1);
        x.scrap(0);
        due("12 any that came", x.pairWork(0, 1, 0, 0), 0);
    }

    private static void pairWorkOrder() {
        ReedBench x = new ReedBench();
        x.rates(4, 10);
        x.reed(1000, 4, 5);
        x.reed(1000, 4, 5);
        x.want(2, 1000);
        x.want(3, 1000);
        x.beat(1, 4, 4);
        // Either the first goes down by 4 or the other goes up by 4: no tip and no root of the first.
        due("12 order: strokes", x.pairWork(0, 1, 1, 0), 1);
        due("12 order: first tip", x.pairWork(0, 1, 1, 1), 0);
        due("12 order: first root", x.pairWork(0, 1, 1, 2), 0);
        due("12 order: other tip", x.pairWork(0, 1, 1, 3), 1);
        x.beat(1, -4, -4);
        // Either the first goes up or the other goes down: the tip of the first is spared.
        due("12 order down: strokes", x.pairWork(0, 1, 1, 0), 1);
        due("12 order down: first tip", x.pairWork(0, 1, 1, 1), 0);
        due("12 order down: other root", x.pairWork(0, 1, 1, 4), 1);
        // The other is wanted far away: beating counts the pitches, not how far they are off.
        x.want(3, 1040);
        x.reed(1040, 1, 0);
        x.beat(1, 40, 40);
        due("12 far apart", x.pairWork(0, 2, 1, 0), 0);
        x.beat(1, 44, 44);
        due("12 far apart, first down", x.pairWork(0, 2, 1, 2), 1);
    }

    private static void best() {
        ReedBench x = new ReedBench();
        x.rates(6, 0);
        x.reed(1012, 1, 5);
        x.reed(1000, 1, 5);
        x.reed(1006, 1, 5);
        x.want(1, 1012);
        due("13 strokes", x.best(0), 0);
        due("13 reed", x.best(11), 0);
        due("13 not wanted", x.best(10), -1);
        x.want(6, 1018);
        // 0 and 1 or 2 in the slots: 0 + 2, 1 + 1: equal, so the lesser reed in slot 1.
        due("13 two slots", x.best(0), 2);
        due("13 the first lay", x.best(11), 0);
        due("13 its other reed", x.best(16), 2);
        due("13 two such lays", x.lays(), 2);
        due("13 what 1", x.best(1), -1);
        due("13 what 9", x.best(9), -1);
        due("13 what 18", x.best(18), -1);
        due("13 what -1", x.best(-1), -1);
        x.scrap(0);
        due("13 without the scrapped one", x.best(11), 1);
        due("13 its strokes", x.best(0), 4);
        x.want(3, 1018);
        due("13 too few reeds", x.best(0), -1);
        due("13 no reed then", x.best(11), -1);
    }

    private static void lays() {
        ReedBench x = new ReedBench();
        for (int r = 0; r < 12; r++) {
            x.reed(1000, 1, 0);
        }
        due("14 no slot", x.lays(), 1);
        int due = 1;
        for (int s = 0; s < 8; s++) {
            x.want(s, 1000);
            due *= 12 - s;
            due("14 all alike, slots " + (s + 1), x.lays(), due);
        }
        for (int k = 0; k < 4; k++) {
            x.beat(k, 0, 0);
        }
        due("14 in pairs", x.lays(), due);
        for (int s = 0; s < 8; s++) {
            due("14 the first", x.best(10 + s), s);
        }
        x.beat(2, 1, 1);
        due("14 none", x.lays(), 0);
        x.undo();
        x.scrap(0);
        due("14 free ones alone", x.lays(), 11 * 10 * 9 * 8 * 7 * 6 * 5 * 4);
    }

    private static void make() {
        ReedBench x = new ReedBench();
        x.reed(1000, 8, 5);
        due("15 no slot is wanted", x.make(), -1);
        x.want(4, 3000);
        due("15 no lay", x.make(), -1);
        due("15 nothing done", x.look(4), 16);
        x.want(4, 985);
        x.beat(2, 1, 2);
        due("15 made", x.make(), 0);
        due("15 pitch", x.of(0, 0), 985);
        due("15 thickness", x.of(0, 1), 6);
        due("15 tip", x.of(0, 2), 5);
        due("15 set", x.of(0, 3), 1);
        due("15 plate", x.of(0, 4), 0);
        due("15 slot", x.of(0, 5), 4);
        due("15 strokes", x.of(0, 6), 2);
        due("15 no slot wanted then", x.look(4), 0);
        due("15 nor a pitch", x.look(14), -1);
        due("15 the beat stays", x.look(24), 1);
        due("15 plates", x.look(5), 1);
        due("15 not twice", x.make(), -1);
        x.want(0, 985);
        due("15 a set reed is not used again", x.best(0), -1);
        x.reed(985, 1, 0);
        due("15 the next plate", x.make(), 1);
        due("15 its number", x.of(1, 4), 1);
        x.undo();
        due("15 the number comes again", x.make(), 1);
    }

    private static void makePairs() {
        ReedBench x = new ReedBench();
        x.rates(6, 5);
        x.reed(1000, 3, 5);
        x.reed(1000, 3, 5);
        x.reed(500, 9, 1);
        x.want(0, 1000);
        x.want(1, 1000);
        x.want(7, 490);
        x.beat(0, 8, 8);
        due("15 pair strokes", x.best(0), 5);
        due("15 pair made", x.make(), 0);
        due("15 first of the pair", x.of(0, 0), 995);
        due("15 other of the pair", x.of(1, 0), 1003);
        due("15 strokes of the first", x.of(0, 6), 2);
        due("15 strokes of the other", x.of(1, 6), 2);
        due("15 beside the pair", x.of(2, 0), 491);
        due("15 slot beside the pair", x.of(2, 5), 7);
    }

    private static void lacks() {
        ReedBench x = new ReedBench();
        due("16 nothing wanted", x.lacks(), 0);
        x.want(3, 1000);
        x.want(5, 1000);
        x.want(6, 2000);
        due("16 no reeds", x.lacks(), 8 + 32 + 64);
        x.reed(1000, 1, 0);
        due("16 the least number", x.lacks(), 8 + 64);
        x.reed(2000, 1, 0);
        due("16 one of two alike", x.lacks(), 8);
        x.reed(1001, 1, 0);
        due("16 nothing lacks", x.lacks(), 0);
        x.scrap(2);
        due("16 scrapped ones don't help", x.lacks(), 8);
        due("16 best is as it was", x.best(0), -1);
        // The fewest counts more than the least number.
        ReedBench y = new ReedBench();
        y.reed(1000, 1, 0);
        y.reed(2000, 1, 0);
        y.want(0, 1000);
        y.want(1, 2000);
        y.want(7, 5000);
        due("16 fewest ahead of least", y.lacks(), 128);
    }

    private static void lacksOfPairs() {
        ReedBench x = new ReedBench();
        x.reed(1000, 1, 0);
        x.reed(1000, 1, 0);
        x.want(2, 1000);
        x.want(3, 1000);
        x.beat(1, 1, 9);
        due("16 either of a pair, the lesser", x.lacks(), 4);
        x.want(3, 4000);
        due("16 the one that can't be", x.lacks(), 8);
        x.want(2, 4000);
        due("16 both of a pair", x.lacks(), 12);
        x.beat(1, 9, 1);
        due("16 both, beating or not", x.lacks(), 12);
        x.want(2, 1000);
        x.want(3, 1000);
        x.beat(1, 0, 0);
        due("16 the pair can be", x.lacks(), 0);
        x.want(4, 1000);
        due("16 a slot of the pair goes first", x.lacks(), 4);
    }

    private static void undo() {
        ReedBench x = new ReedBench();
        for (int r = 0; r < 8; r++) {
            x.reed(1000 + r, 1, 0);
        }
        for (int n = 0; n < 6; n++) {
            due("17 kept", x.undo(), true);
            due("17 came", x.look(0), 7 - n);
        }
        due("17 the seventh is not kept", x.undo(), false);
        due("17 two stay", x.look(0), 2);
        x.reed(-1, 1, 0);
        x.scrap(5);
        x.rates(0, 0);
        x.want(8, 0);
        x.tuning(3, 0);
        x.beat(4, 0, 0);
        x.file(0, 1, 0);
        x.make();
        due("17 what was not done is not undone", x.undo(), false);
        x.rates(6, 5);
        due("17 done without a difference", x.undo(), true);
        due("17 and only once", x.undo(), false);
        x.file(0, 0, 0);
        due("17 filed by nothing", x.undo(), true);
        x.want(0, -1);
        due("17 not wanted still", x.undo(), true);
        x.beat(0, 1, 0);
        due("17 need not still", x.undo(), true);
        due("17 none left", x.undo(), false);
    }

    private static void undoOfEveryCall() {
        ReedBench x = new ReedBench();
        x.reed(1000, 8, 5);
        x.scrap(0);
        due("17 scrap", x.undo() && x.of(0, 3) == 0, true);
        x.rates(1, 1);
        due("17 rates", x.undo() && x.look(2) == 6 && x.look(3) == 5, true);
        x.want(2, 7);
        due("17 want", x.undo() && x.look(4) == 0 && x.look(12) == -1, true);
        x.want(2, 7);
        x.tuning(0, 0);
        due("17 tuning", x.undo() && x.look(4) == 4 && x.look(12) == 7, true);
        x.beat(1, 2, 3);
        due("17 beat", x.undo() && x.look(22) == NO_LOOK && x.look(23) == NO_LOOK, true);
        x.file(0, 2, 3);
        due("17 file", x.undo() && x.of(0, 0) == 1000 && x.of(0, 1) == 8, true);
        due("17 file's tip and strokes", x.of(0, 2) == 5 && x.of(0, 6) == 0, true);
        x.want(2, 1012);
        due("17 make done", x.make(), 0);
        due("17 make", x.undo() && x.of(0, 3) == 0 && x.of(0, 4) == -1 && x.of(0, 5) == -1, true);
        due("17 make's pitch and strokes", x.of(0, 0) == 1000 && x.of(0, 6) == 0, true);
        due("17 make's plate and slots", x.look(5) == 0 && x.look(4) == 4 && x.look(12) == 1012, true);
        due("17 best again", x.best(0), 2);
        due("17 reed's", x.undo() && x.undo() && x.undo() && x.look(0) == 0 && x.look(1) == 0, true);
    }
}
