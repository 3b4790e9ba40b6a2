/** Each promise of the document: ordinary inputs, the edges it names, wrong inputs. All answers are worked out by hand. */
public final class PromisesTest {
    private static final int NONE = SandTreaty.NONE;
    private static final int UNKNOWN = SandTreaty.UNKNOWN;
    private static final int OUTSIDE = SandTreaty.OUTSIDE;
    private static final int NOT = SandTreaty.NOT;
    private static final int FULL = SandTreaty.FULL;
    private static final int LOWEST = Integer.MIN_VALUE;
    private static final int HIGHEST = Integer.MAX_VALUE;

    /** Tide 5 in every third hour, else 0; cells 3 (wet then), 9 and 9 (never wet). */
    private static final String CALM = "t5,0,0;w4;c3;c9;c9;k2 9 13 8;k1 0 6 17;k3 9 10 10;";

    private final Check check = new Check();

    private void due(String what, long got, long want) {
        check.due(what, got, want);
    }

    // ---- the strand

    private void promise1() {
        SandTreaty x = new SandTreaty();
        int[] told = {0, 0, 0, 0, 0, 0, 0, 0, NONE, 0, 1000000, 1000000, 0, 0, 0};
        for (int what = 0; what < told.length; what++) {
            due("1: told " + what, x.told(what), told[what]);
        }
        due("1: fault", x.fault(), NONE);
        due("1: clause", x.clause(0, 0), UNKNOWN);
        due("1: cell", x.cell(0, 0), UNKNOWN);
        due("1: write", x.write(0, 0), UNKNOWN);
        due("1: rub", x.rub(0), UNKNOWN);
        due("1: storm", x.storm(), NOT);
        due("1: hour", x.hour(1), NOT);
        due("1: hour 0", x.hour(0), OUTSIDE);
        due("1: drift", x.drift(30), NOT);
        due("1: drift 31", x.drift(31), OUTSIDE);
        due("1: undo", x.undo(1), NOT);
        due("1: lasts", x.lasts(0, 0), UNKNOWN);
        due("1: washed", x.washed(0), UNKNOWN);
        due("1: plan of none", x.plan(0, 1, NONE), OUTSIDE);
        due("1: plan", x.plan(1, 1, NONE), UNKNOWN);
        due("1: bargain of none", x.bargain(0, 1, 0, 2), 0);
        due("1: bargain", x.bargain(1, 1, 0, 2), UNKNOWN);
        due("1: crossing", x.crossing(0), UNKNOWN);
        due("1: leaners", x.leaners(0), UNKNOWN);
        due("1: see", x.see(0, 0, true), UNKNOWN);
        due("1: agreed 0", x.agreed(0), 0);
        due("1: agreed 1", x.agreed(1), NONE);
        due("1: agreed 2", x.agreed(2), 0);
        due("1: lookAt", x.lookAt(0), NONE);
        due("1: note", x.note(0, NONE), UNKNOWN);
        due("1: judge", x.judge(), NONE);
        due("1: tear", x.tear(), 0);
        due("1: goBack", x.goBack(0), NOT);
        due("1: keep", x.keep(0), 1);
        due("1: goBack of it", x.goBack(0), 1);
        due("1: seed", x.seed(3), 0);
        due("1: strand", x.strand(), 0);
    }

    private void promise2() {
        SandTreaty x = new SandTreaty();
        due("2: -1", x.feed(-1), OUTSIDE);
        due("2: 256", x.feed(256), OUTSIDE);
        due("2: lowest", x.feed(LOWEST), OUTSIDE);
        due("2: highest", x.feed(HIGHEST), OUTSIDE);
        due("2: 0", x.feed(0), 1);
        due("2: 255", x.feed(255), 2);
        for (int i = 3; i <= 240; i++) {
            due("2: feed " + i, x.feed(' '), i);
        }
        due("2: full", x.feed(' '), FULL);
        due("2: outside ahead of full", x.feed(300), OUTSIDE);
        due("2: letters", x.told(4), 240);
        due("2: strand", x.strand(), -11);
        due("2: empty behind a fault", x.told(4), 0);
        due("2: anew", x.feed('t'), 1);
    }

    private void fault(String text, int kind, int at) {
        SandTreaty x = new SandTreaty();
        Check.feed(x, text);
        due("3: strand '" + text + "'", x.strand(), kind == 0 ? 0 : -10 - kind);
        due("4: fault '" + text + "'", x.fault(), at);
        due("3: text gone '" + text + "'", x.told(4), 0);
    }

    private void faults() {
        fault("", 0, NONE);
        fault(" ", 0, NONE);
        fault("   ", 0, NONE);
        fault(" ".repeat(240), 0, NONE);
        fault("t0;", 0, NONE);
        fault(" t 19 , 000 ; ", 0, NONE);
        fault("t0,1,2,3,4,5,6,7,8,9,10,11;", 0, NONE);
        fault("t1;w30;", 0, NONE);
        fault("t1;c0;c19;w1;", 0, NONE);
        // 1: it cannot stand there
        fault("  x", 1, 2);
        fault("  ;", 1, 2);
        fault("" + (char) 9, 1, 0);
        fault(" " + (char) 160, 1, 1);
        fault("x", 1, 0);
        fault("T1;", 1, 0);
        fault("c1;", 1, 0);
        fault("7", 1, 0);
        fault(";", 1, 0);
        fault("t", 1, 1);
        fault("t1", 1, 2);
        fault("t1 ", 1, 3);
        fault("t1,", 1, 3);
        fault("t1 2;", 1, 3);
        fault("t1,,2;", 1, 3);
        fault("t;", 1, 1);
        fault("t1;;", 1, 3);
        fault("t1;x", 1, 3);
        fault("t1;5", 1, 3);
        fault("t1;w", 1, 4);
        fault("t1;w2,3;", 1, 5);
        fault("t1;w2w3;", 1, 5);
        fault("t1;c2 2000;", 1, 6);
        fault("t1;k1 9 1;", 1, 9);
        fault("t1;k1 9 1 1 1;", 1, 12);
        fault("t1;k1 9 1 1", 1, 11);
        fault("t-1;", 1, 1);
        fault("t1" + (char) 9 + ";", 1, 2);
        fault("t0,1,2,3,4,5,6,7,8,9,1,1,;", 1, 24);
        fault("t0,1,2,3,4,5,6,7,8,9,1,1 ,99;", 1, 25);
        // 2: a number
        fault("t20;", 2, 1);
        fault("t1, 20x", 2, 4);
        fault("t0001;", 2, 1);
        fault("t99999999999999;", 2, 1);
        fault("t1;w0;", 2, 4);
        fault("t1;w31;", 2, 4);
        fault("t1;c20;", 2, 4);
        fault("t1;k0 9 0 0;", 2, 4);
        fault("t1;k7 9 0 0;", 2, 4);
        fault("t1;k1 0 0 0;", 2, 6);
        fault("t1;k1 10 0 0;", 2, 6);
        fault("t1;k1 9 21 0;", 2, 8);
        fault("t1;k1 9 0 21;", 2, 10);
        fault("t1;k1 9 0 0;k1 1 0 0;", 2, 15);
        fault("t1;k1 9 0 0;k1 8 0 0;", 2, 15);
        // 3: once more than may be
        fault("t1;t", 3, 3);
        fault("t1;w1; w2;", 3, 7);
        fault("t1;c1;c1;c1;c1;c1;c1;c1;c1;c1;c", 3, 30);
        fault("t1;k1 9 1 1;k1 9 1 1;k1 9 1 1;k1 9 1 1;k1 9 1 1;k1 9 1 1;k", 3, 57);
    }

    private void promise3() {
        SandTreaty x = Check.on(CALM);
        due("3: clauses", x.told(3), 3);
        x.seed(77);
        x.write(0, 1);
        x.hour(3);
        x.see(0, 1, true);
        x.note(0, 1);
        x.keep(0);
        x.hour(1);
        Check.feed(x, "t20;");
        due("3: fault", x.strand(), -12);
        due("3: fault leaves the hours", x.told(5), 4);
        due("3: fault leaves the clauses", x.clause(0, 4), 1);
        due("3: fault leaves the strand", x.told(0), 3);
        due("3: fault leaves the seen", x.told(12), 1);
        due("3: fault leaves the book", x.told(13), 1);
        due("3: fault leaves what can be undone", x.told(14), 1);
        due("3: fault leaves the image", x.goBack(0), 1);
        x.hour(1);
        Check.feed(x, "t 1 2 ;;");
        x.strand();
        Check.feed(x, "k");
        x.strand();
        Check.feed(x, "t4,5;w7;c1;");
        due("3: the wind told again in another text", x.strand(), 0);
        Check.feed(x, "t4,5;c1;k1 9 3 4;k2 0 20 0;");
        due("3: strand", x.strand(), 2);
        due("4: no fault any more", x.fault(), NONE);
        int[] told = {2, 30, 1, 2, 0, 0, 4, 1, NONE, 0, 1000000, 1000000, 0, 0, 0};
        for (int what = 0; what < told.length; what++) {
            due("3: told " + what, x.told(what), told[what]);
        }
        due("3: nowhere", x.clause(0, 4), NONE);
        due("3: image gone", x.goBack(0), NOT);
        due("3: seed stays", x.seed(0), 77);
        x.keep(1);
        due("3: empty text", x.strand(), 0);
        due("3: no strand", x.storm(), NOT);
        due("3: no tides", x.told(0), 0);
        due("3: no wind", x.told(1), 0);
        due("3: no image", x.goBack(1), NOT);
        blankText();
    }

    /** Blanks alone tell what the empty text tells, behind a strand, too. */
    private void blankText() {
        SandTreaty x = Check.on(CALM);
        x.seed(77);
        x.write(0, 1);
        x.hour(3);
        x.see(0, 1, true);
        x.note(0, 1);
        x.keep(0);
        x.hour(1);
        Check.feed(x, "x");
        x.strand();
        Check.feed(x, "  ");
        due("3: blanks", x.strand(), 0);
        due("4: blanks have no fault", x.fault(), NONE);
        int[] told = {0, 0, 0, 0, 0, 0, 0, 0, NONE, 0, 1000000, 1000000, 0, 0, 0};
        for (int what = 0; what < told.length; what++) {
            due("3: blanks, told " + what, x.told(what), told[what]);
        }
        due("3: blanks, no strand", x.hour(1), NOT);
        due("3: blanks, no clause", x.clause(0, 0), UNKNOWN);
        due("3: blanks, no image", x.goBack(0), NOT);
        due("3: blanks, no begins", x.agreed(0), 0);
        due("3: blanks, the seed stays", x.seed(0), 77);
    }

    private void promise5() {
        SandTreaty x = Check.on(CALM);
        int[] told = {3, 4, 3, 3, 0, 0, 5, 1, NONE, 0, 1000000, 1000000, 0, 0, 0};
        for (int what = 0; what < told.length; what++) {
            due("5: told " + what, x.told(what), told[what]);
        }
        x.feed('t');
        x.write(0, 1);
        due("5: letters", x.told(4), 1);
        due("5: stick", x.told(8), 0);
        due("5: undone", x.told(14), 1);
        x.hour(2);
        due("5: hours", x.told(5), 2);
        due("5: tide", x.told(6), 0);
        due("5: wet", x.told(7), 0);
        due("5: stick free", x.told(8), NONE);
        due("5: in force", x.told(9), 1);
        due("5: peace of the one", x.told(10), 1000003);
        due("5: peace of the other", x.told(11), 999998);
        x.see(0, 0, true);
        x.see(1, 0, true);
        x.note(0, 0);
        due("5: seen", x.told(12), 2);
        due("5: book", x.told(13), 1);
        due("5: -1", x.told(-1), OUTSIDE);
        due("5: 15", x.told(15), OUTSIDE);
        due("5: lowest", x.told(LOWEST), OUTSIDE);
        due("5: highest", x.told(HIGHEST), OUTSIDE);
        SandTreaty y = Check.on("t3,7;c3;c4;c7;c8;c0;");
        due("5: wet at 3", y.told(7), 1 + 16);
        y.hour(1);
        due("5: wet at 7", y.told(7), 1 + 2 + 4 + 16);
        y.hour(1);
        due("5: tides come round", y.told(6), 3);
    }

    private void promise6() {
        SandTreaty x = Check.on(CALM);
        due("6: N", x.clause(2, 0), 3);
        due("6: L none", x.clause(0, 1), NONE);
        due("6: L", x.clause(1, 1), 0);
        due("6: worth to the one", x.clause(1, 2), 6);
        due("6: worth to the other", x.clause(1, 3), 17);
        due("6: nowhere", x.clause(0, 4), NONE);
        x.write(0, 2);
        x.hour(1);
        due("6: cell", x.clause(0, 4), 2);
        due("6: written", x.clause(0, 5), 1);
        due("6: dry", x.clause(0, 6), 0);
        x.hour(3);
        due("6: written, done", x.clause(0, 5), 2);
        due("6: dry behind it", x.clause(0, 6), 2);
        due("6: what -1", x.clause(0, -1), OUTSIDE);
        due("6: what 7", x.clause(0, 7), OUTSIDE);
        due("6: k -1", x.clause(-1, 0), UNKNOWN);
        due("6: k 3", x.clause(3, 0), UNKNOWN);
        due("6: unknown ahead of outside", x.clause(LOWEST, HIGHEST), UNKNOWN);
    }

    private void promise7() {
        SandTreaty x = Check.on(CALM);
        due("7: height", x.cell(0, 0), 3);
        due("7: none in it", x.cell(1, 1), NONE);
        x.write(2, 1);
        due("7: in it", x.cell(1, 1), 2);
        due("7: wet", x.cell(0, 2), 1);
        due("7: not wet", x.cell(1, 2), 0);
        x.hour(1);
        due("7: wet no more", x.cell(0, 2), 0);
        due("7: what 3", x.cell(0, 3), OUTSIDE);
        due("7: what -1", x.cell(0, -1), OUTSIDE);
        due("7: c 3", x.cell(3, 0), UNKNOWN);
        due("7: unknown ahead of outside", x.cell(-1, 9), UNKNOWN);
    }

    // ---- deeds

    private void promise8() {
        SandTreaty x = Check.on(CALM);
        due("8: wet", x.write(0, 0), NOT);
        due("8: no clause", x.write(3, 1), UNKNOWN);
        due("8: no cell", x.write(0, 3), UNKNOWN);
        due("8: neither", x.write(-1, -1), UNKNOWN);
        due("8: nothing to undo", x.told(14), 0);
        due("8: written", x.write(0, 1), 2);
        due("8: is not nowhere", x.write(0, 2), NOT);
        due("8: the stick is not free", x.write(1, 2), NOT);
        x.hour(1);
        due("8: still not free", x.write(1, 2), NOT);
        x.hour(1);
        due("8: a clause is in it", x.write(1, 1), NOT);
        due("8: what it leans on need not be done", x.write(2, 2), 3);
        due("8: can be undone", x.told(14), 4);
        // washed while it is written: the stick is free again
        SandTreaty y = Check.on("t0,5;c3;c9;k3 9 10 10;k1 9 10 10;");
        y.write(0, 0);
        y.hour(1);
        due("8: one hour of it", y.clause(0, 5), 1);
        y.hour(1);
        due("8: washed", y.clause(0, 4), NONE);
        due("8: nothing of it", y.clause(0, 5), 0);
        due("8: free", y.told(8), NONE);
        due("8: anew", y.write(1, 0), 1);
    }

    private void promise9() {
        SandTreaty x = Check.on(CALM);
        due("9: nowhere", x.rub(0), NOT);
        due("9: no clause", x.rub(3), UNKNOWN);
        due("9: -1", x.rub(-1), UNKNOWN);
        x.write(0, 1);
        due("9: none written", x.rub(0), 0);
        due("9: the stick is free", x.told(8), NONE);
        x.write(0, 1);
        x.hour(5);
        x.write(1, 2);
        x.hour(1);
        due("9: in force", x.told(9), 3);
        due("9: rubbed", x.rub(0), 2);
        due("9: nowhere now", x.clause(0, 4), NONE);
        due("9: not dry", x.clause(0, 6), 0);
        due("9: what leans on it is out of force", x.told(9), 0);
        due("9: but it is there", x.clause(1, 4), 2);
        due("9: undone", x.undo(1), 6);
        due("9: in force again", x.told(9), 3);
        due("9: dry again", x.clause(0, 6), 4);
    }

    private void promise10() {
        SandTreaty x = Check.on(CALM);
        due("10: none", x.storm(), 0);
        due("10: can be undone", x.told(14), 1);
        x.write(0, 1);
        x.hour(2);
        x.write(2, 2);
        due("10: two", x.storm(), 2);
        due("10: nowhere", x.clause(0, 4), NONE);
        due("10: the stick is free", x.told(8), NONE);
        due("10: not in force", x.told(9), 0);
        due("10: the hours stay", x.told(5), 2);
        due("10: the peace stays", x.told(10), 1000003);
        due("10: no strand", new SandTreaty().storm(), NOT);
    }

    private void promise11() {
        SandTreaty x = Check.on(CALM);
        due("11: 0", x.hour(0), OUTSIDE);
        due("11: 31", x.hour(31), OUTSIDE);
        due("11: lowest", x.hour(LOWEST), OUTSIDE);
        x.write(0, 1);
        due("11: not yet", x.hour(1), 0);
        due("11: done", x.hour(1), 1);
        due("11: dry 4 of 4", x.hour(4), 1);
        due("11: dry", x.clause(0, 6), 4);
        due("11: blown", x.hour(1), 0);
        due("11: nowhere", x.clause(0, 4), NONE);
        due("11: peace of five hours", x.told(10), 1000015);
        due("11: of the other one", x.told(11), 999990);
        // what leans on a washed one is out of force, but stays
        SandTreaty y = Check.on("t0,0,5;c3;c9;k1 9 11 10;k1 0 12 10;");
        y.write(0, 0);
        y.hour(1);
        y.write(1, 1);
        due("11: both", y.hour(1), 3);
        due("11: none", y.hour(1), 0);
        due("11: it stays", y.clause(1, 4), 1);
        due("11: peace", y.told(10), 1000000 + 1 + 3);
        y.write(0, 0);
        due("11: both again", y.hour(1), 3);
        SandTreaty z = Check.on("t1;");
        for (int i = 0; i < 300; i++) {
            due("11: 30 hours", z.hour(30), 0);
        }
        due("11: 9000", z.told(5), 9000);
        due("11: not above 9000", z.hour(30), 0);
        due("11: above", z.hour(1), FULL);
        due("12: above", z.drift(1), FULL);
        due("11: outside ahead of full", z.hour(31), OUTSIDE);
        due("11: hours", z.told(5), 9030);
        due("11: undone", z.undo(30), 9000);
        due("11: again", z.hour(1), 0);
        due("11: 9001 is above", z.hour(1), FULL);
        due("12: 9001 is above", z.drift(1), FULL);
    }

    /** The draws, told here by their rule. */
    private long drawn;

    private int draw(int n) {
        drawn = (drawn * 1103515245L + 12345L) % 2147483648L;
        return (int) (drawn / 65536 % n);
    }

    private void promise12() {
        SandTreaty x = Check.on("t0;c5;c5;k1 9 11 10;k1 9 12 10;k2 9 13 10;");
        due("12: 0", x.drift(0), OUTSIDE);
        due("12: 31", x.drift(31), OUTSIDE);
        x.seed(4);
        drawn = 4;
        SandTreaty y = Check.on("t0;c5;c5;k1 9 11 10;k1 9 12 10;k2 9 13 10;");
        for (int i = 0; i < 40; i++) {
            y.write(draw(3), draw(2));
            if (draw(16) == 0) {
                y.storm();
            }
            due("12: in force " + i, x.drift(1), y.hour(1));
            for (int k = 0; k < 3; k++) {
                due("12: cell " + i, x.clause(k, 4), y.clause(k, 4));
                due("12: written " + i, x.clause(k, 5), y.clause(k, 5));
            }
        }
        due("12: peace", x.told(10), y.told(10));
        due("12: seed", x.seed(0), drawn);
        due("12: each hour is one deed", x.told(14), 30);
        SandTreaty z = Check.on("t0;c5;");
        z.drift(2);
        drawn = 0;
        draw(16);
        draw(16);
        due("12: without clauses only storms are drawn", z.seed(0), drawn);
        SandTreaty w = Check.on("t0;k1 9 0 0;");
        w.drift(3);
        draw(16);
        due("12: without cells, too", w.seed(0), drawn);
        SandTreaty v = Check.on("t0;c5;k1 9 0 0;");
        v.drift(1);
        drawn = 0;
        draw(1);
        draw(1);
        draw(16);
        due("12: one clause and one cell are drawn, too", v.seed(0), drawn);
    }

    private void promise13() {
        SandTreaty x = Check.on(CALM);
        due("13: 0", x.undo(0), OUTSIDE);
        due("13: 31", x.undo(31), OUTSIDE);
        due("13: none", x.undo(1), NOT);
        x.write(0, 1);
        x.hour(3);
        x.rub(0);
        x.storm();
        due("13: six", x.told(14), 6);
        due("13: seven", x.undo(7), NOT);
        due("13: refused writes count not", x.write(0, 9), UNKNOWN);
        due("13: still six", x.told(14), 6);
        due("13: three", x.undo(3), 2);
        due("13: written", x.clause(0, 5), 2);
        due("13: peace", x.told(10), 1000003);
        due("13: three left", x.told(14), 3);
        due("13: one", x.undo(1), 1);
        due("13: the stick", x.told(8), 0);
        due("13: no peace", x.told(10), 1000000);
        due("13: all", x.undo(2), 0);
        due("13: nowhere", x.clause(0, 4), NONE);
        x.hour(20);
        x.hour(20);
        due("13: 30 at most", x.told(14), 30);
        due("13: to 10", x.undo(30), 10);
        due("13: no more", x.undo(1), NOT);
        x.seed(9);
        x.drift(5);
        int seed = x.seed(1);
        x.seed(seed);
        due("13: drifted", x.undo(5), 10);
        due("13: the seed stays", x.seed(0), seed);
        x.hour(5);
        x.see(0, 1, true);
        x.note(0, 1);
        x.undo(2);
        due("13: the seen stay", x.told(12), 1);
        due("13: the book stays", x.told(13), 1);
    }

    // ---- tried

    private void promise14() {
        SandTreaty x = Check.on(CALM);
        due("14: wet", x.lasts(0, 0), NOT);
        due("14: no clause", x.lasts(3, 1), UNKNOWN);
        due("14: no cell", x.lasts(0, 3), UNKNOWN);
        due("14: done and 4 dry", x.lasts(0, 1), 5);
        due("14: leans on none that is there", x.lasts(1, 1), 0);
        x.write(0, 1);
        due("14: is not nowhere", x.lasts(0, 2), NOT);
        due("14: in a cell with one", x.lasts(2, 1), NOT);
        due("14: the stick is freed", x.lasts(2, 2), 5);
        due("14: what it wrote is never done", x.lasts(1, 2), 0);
        due("14: nothing changed", x.told(8), 0);
        x.hour(2);
        due("14: as long as what it leans on", x.lasts(1, 2), 4);
        x.hour(2);
        due("14: shorter", x.lasts(1, 2), 2);
        due("14: hours stay", x.told(5), 4);
        due("14: in the low cell, till hour 6", x.lasts(1, 0), 2);
        SandTreaty y = Check.on("t0,5;w9;c3;k1 9 10 10;k2 9 10 10;");
        due("14: one hour and washed", y.lasts(0, 0), 1);
        due("14: washed ahead of its end", y.lasts(1, 0), 0);
        // a half written one that was left in the sand does not dry
        SandTreaty z = Check.on("t0;w2;c3;c3;k2 9 10 10;k1 9 10 10;");
        z.write(0, 0);
        z.hour(1);
        due("14: the other one", z.lasts(1, 1), 3);
    }

    private void promise15() {
        SandTreaty x = Check.on(CALM);
        due("15: nowhere", x.washed(0), 0);
        due("15: unknown", x.washed(3), UNKNOWN);
        due("15: -1", x.washed(-1), UNKNOWN);
        x.write(0, 1);
        due("15: two to write, five to dry", x.washed(0), 7);
        x.hour(3);
        due("15: four more", x.washed(0), 4);
        due("15: nothing changed", x.told(5), 3);
        x.hour(1);
        x.write(2, 0);
        due("15: washed at hour 6", x.washed(2), 3);
        SandTreaty y = Check.on("t0;c1;k6 9 10 10;");
        y.write(0, 0);
        due("15: 6 to write, 31 to dry", y.washed(0), 37);
    }

    private void promise16() {
        SandTreaty x = Check.on(CALM);
        due("16: bit 3", x.plan(8, 1, NONE), UNKNOWN);
        due("16: below 0", x.plan(-1, 1, NONE), UNKNOWN);
        due("16: unknown ahead of outside", x.plan(8, 0, 7), UNKNOWN);
        due("16: none", x.plan(0, 1, NONE), OUTSIDE);
        due("16: m 0", x.plan(1, 0, NONE), OUTSIDE);
        due("16: m 13", x.plan(1, 13, NONE), OUTSIDE);
        due("16: i -2", x.plan(1, 1, -2), NONE);
        due("16: i -3", x.plan(1, 1, -3), NONE);
        due("16: i -2 of three", x.plan(7, 1, -2), NONE);
        due("16: i -2, no plan", x.plan(1, 6, -2), NONE);
        due("16: i lowest", x.plan(1, 1, LOWEST), NONE);
        due("16: i lowest of three", x.plan(7, 1, LOWEST), NONE);
        due("16: i lowest, no plan", x.plan(1, 6, LOWEST), NONE);
        due("16: i -2, a set of none", x.plan(0, 1, -2), OUTSIDE);
        due("16: i -2, m 13", x.plan(1, 13, -2), OUTSIDE);
        due("16: i -2, m 0", x.plan(1, 0, -2), OUTSIDE);
        due("16: i -2, bit 3", x.plan(8, 1, -2), UNKNOWN);
        due("16: i 3 of three", x.plan(7, 1, 3), NONE);
        due("16: i 3 of one", x.plan(1, 1, 3), NONE);
        due("16: i 4 of two", x.plan(3, 1, 4), NONE);
        due("16: i highest", x.plan(1, 1, HIGHEST), NONE);
        due("16: i highest of three", x.plan(7, 1, HIGHEST), NONE);
        due("16: i highest, no plan", x.plan(1, 6, HIGHEST), NONE);
        due("16: i 3, a set of none", x.plan(0, 1, 3), OUTSIDE);
        due("16: i 3, m 13", x.plan(1, 13, 3), OUTSIDE);
        due("16: i 3, m 0", x.plan(1, 0, 3), OUTSIDE);
        due("16: i 3, bit 3", x.plan(8, 1, 3), UNKNOWN);
        due("16: i 1 of one", x.plan(1, 1, 1), NONE);
        due("16: i 2 of one", x.plan(1, 1, 2), NONE);
        due("16: i 2 of two", x.plan(3, 1, 2), NONE);
        due("16: i 1 of one, no plan", x.plan(1, 6, 1), NONE);
        due("16: i 1 of none", x.plan(0, 1, 1), OUTSIDE);
        due("16: one", x.plan(1, 1, NONE), 2);
        due("16: its place", x.plan(1, 1, 0), 10);
        due("16: five hours", x.plan(1, 5, NONE), 6);
        due("16: six would be blown", x.plan(1, 6, NONE), NONE);
        due("16: no place then", x.plan(1, 6, 0), NONE);
        due("16: what it leans on is not there", x.plan(2, 1, NONE), NONE);
        due("16: two", x.plan(3, 1, NONE), 3);
        // 0 first in cell 1 or 1 first in cell 1: the lesser clause first; the second in the least cell that is bare at hour 2
        due("16: two, first", x.plan(3, 1, 0), 10);
        due("16: two, second", x.plan(3, 1, 1), 1);
        due("16: two for two hours", x.plan(3, 2, NONE), 4);
        due("16: cell 0 is wet then", x.plan(3, 2, 1), 21);
        due("16: three", x.plan(7, 1, NONE), 6);
        due("16: all rubbed out ahead", x.write(0, 1), 2);
        due("16: three from this", x.plan(7, 1, NONE), 6);
        due("16: the sand stays", x.told(8), 0);
        SandTreaty y = Check.on("t0;c1;k1 9 1 1;k1 9 1 1;k1 9 1 1;k1 9 1 1;");
        due("16: four", y.plan(15, 1, NONE), OUTSIDE);
        due("16: four, i 3", y.plan(15, 1, 3), OUTSIDE);
        due("16: four, i -2", y.plan(15, 1, -2), OUTSIDE);
        due("16: one cell for two", y.plan(3, 1, NONE), NONE);
        due("16: the greatest clause", y.plan(8, 12, NONE), 12);
        due("16: and its place", y.plan(8, 12, 0), 3);
        // bare only in one hour of twelve: waits until then
        SandTreaty z = Check.on("t5,5,5,5,5,5,5,5,5,5,5,0;c3;k1 9 1 1;k2 9 1 1;");
        due("16: waits", z.plan(1, 1, NONE), 12);
        due("16: never two hours", z.plan(1, 2, NONE), NONE);
        due("16: never two to write", z.plan(2, 1, NONE), NONE);
        SandTreaty w = Check.on("t0,9,9;c5;k1 9 1 1;c5;c12;k2 9 1 1;");
        due("16: the longer first in the high cell", w.plan(3, 1, NONE), 4);
        due("16: its first", w.plan(3, 1, 0), 21);
        due("16: its second", w.plan(3, 1, 1), 0);
        w.hour(2);
        due("16: from hour 2 on, the shorter one waits for hour 6", w.plan(3, 1, NONE), 5);
        due("16: the longer one first", w.plan(3, 1, 0), 21);
        due("16: counted from now", w.plan(1, 3, NONE), 3);
    }

    private void promise17() {
        SandTreaty x = Check.on("t0;c1;k1 9 12 9;k2 0 15 5;k3 1 8 20;k1 9 10 10;");
        due("17: bit 4", x.bargain(16, 1, 1, 0), UNKNOWN);
        due("17: unknown ahead of outside", x.bargain(-1, 0, -1, 9), UNKNOWN);
        due("17: n 0", x.bargain(1, 0, 1, 0), OUTSIDE);
        due("17: n 7", x.bargain(1, 7, 1, 0), OUTSIDE);
        due("17: m -1", x.bargain(1, 1, -1, 0), OUTSIDE);
        due("17: m 31", x.bargain(1, 1, 31, 0), OUTSIDE);
        due("17: what 3", x.bargain(1, 1, 1, 3), OUTSIDE);
        due("17: what -1", x.bargain(1, 1, 1, -1), OUTSIDE);
        due("17: the best of all", x.bargain(15, 1, 30, 2), 2);
        due("17: no hours", x.bargain(15, 6, 0, 2), 0);
        due("17: one hour", x.bargain(15, 1, 1, 2), 1);
        due("17: then the other one", x.bargain(15, 2, 9, 2), 6);
        due("17: the one has", x.bargain(15, 2, 9, 0), 103);
        due("17: the other one has", x.bargain(15, 2, 9, 1), 105);
        due("17: of like ones none", x.bargain(8, 6, 9, 2), 0);
        due("17: none, as all is below 0 to the one", x.bargain(4, 1, 9, 2), 0);
        due("17: the other one takes it", x.bargain(4, 2, 9, 2), 4);
        due("17: worth below 0", x.bargain(4, 2, 9, 0), 98);
        due("17: of none", x.bargain(0, 6, 30, 1), 100);
        // the other one takes the last hour, so that nothing worse comes
        due("17: the last hour", x.bargain(15, 6, 3, 2), 10);
        SandTreaty y = Check.on("t0;k2 9 13 10;k2 9 13 10;k1 9 10 12;");
        due("17: of like ones the lesser clause", y.bargain(3, 1, 2, 2), 1);
        due("17: both by turns", y.bargain(3, 3, 4, 2), 3);
        due("17: no hours left for the second", y.bargain(3, 3, 3, 2), 1);
        due("17: one left for the third", y.bargain(7, 2, 3, 2), 5);
    }

    private void promise18() {
        SandTreaty x = Check.on(CALM);
        due("18: unknown", x.crossing(3), UNKNOWN);
        due("18: -1", x.crossing(-1), UNKNOWN);
        due("18: nowhere", x.crossing(0), NONE);
        x.write(0, 1);
        due("18: done at 2, when all is bare", x.crossing(0), 2);
        x.hour(2);
        due("18: now", x.crossing(0), 0);
        x.hour(1);
        due("18: cell 0 is wet at 3", x.crossing(0), 1);
        x.write(1, 2);
        due("18: leaning", x.crossing(1), 1);
        due("18: nothing changed", x.told(5), 3);
        SandTreaty y = Check.on("t5;c5;c9;k1 9 1 1;");
        y.write(0, 1);
        y.hour(1);
        due("18: always a wet cell", y.crossing(0), NONE);
    }

    private void promise19() {
        SandTreaty x = Check.on("t0;k1 9 0 0;k1 0 0 0;k1 9 0 0;k1 1 0 0;k1 0 0 0;k1 3 0 0;");
        due("19: straight and by others", x.leaners(0), 2 + 8 + 16 + 32);
        due("19: 1", x.leaners(1), 8 + 32);
        due("19: none", x.leaners(2), 0);
        due("19: 3", x.leaners(3), 32);
        due("19: the last", x.leaners(5), 0);
        due("19: 6", x.leaners(6), UNKNOWN);
        due("19: -1", x.leaners(-1), UNKNOWN);
    }

    private void promise20() {
        SandTreaty x = new SandTreaty();
        due("20: no hour", x.storms(0, 100), 1000000000);
        due("20: sure storm", x.storms(1, 100), 0);
        due("20: never", x.storms(60, 0), 1000000000);
        due("20: half", x.storms(3, 50), 125000000);
        due("20: cut each time, not once at the end (90458382)", x.storms(6, 33), 90458381);
        due("20: n -1", x.storms(-1, 0), OUTSIDE);
        due("20: n 61", x.storms(61, 0), OUTSIDE);
        due("20: q -1", x.storms(0, -1), OUTSIDE);
        due("20: q 101", x.storms(0, 101), OUTSIDE);
    }

    // ---- what was seen

    private void promise21() {
        SandTreaty x = Check.on(CALM);
        due("21: unknown", x.see(3, 0, true), UNKNOWN);
        due("21: unknown ahead of outside", x.see(-1, 61, true), UNKNOWN);
        due("21: h -1", x.see(0, -1, true), OUTSIDE);
        due("21: h 61", x.see(0, 61, true), OUTSIDE);
        for (int i = 1; i <= 8; i++) {
            due("21: seen " + i, x.see(i % 3, i == 8 ? 60 : 0, i != 8), i);
        }
        due("21: full", x.see(0, 0, true), FULL);
        due("21: outside ahead of full", x.see(0, 61, true), OUTSIDE);
        due("21: eight", x.told(12), 8);
        due("21: all so", x.agreed(0), 12);
    }

    private void promise22() {
        SandTreaty x = Check.on(CALM);
        due("22: all", x.agreed(2), 4095);
        due("22: how many", x.agreed(0), 12);
        due("22: first", x.agreed(1), 0);
        due("22: -1", x.agreed(-1), OUTSIDE);
        due("22: 3", x.agreed(3), OUTSIDE);
        // cell 0 is wet at 0, 3, 6, 9
        x.see(0, 1, true);
        due("22: not begun at a flood", x.agreed(2), 4095 - (1 + 8 + 64 + 512));
        due("22: eight of them", x.agreed(0), 8);
        due("22: from 1 on", x.agreed(1), 1);
        x.see(1, 2, false);
        due("22: leaning on it, washed in the second hour", x.agreed(2), 4 + 32 + 256 + 2048);
        x.see(2, 4, true);
        due("22: stands 4 hours", x.agreed(0), 4);
        x.see(2, 5, false);
        due("22: blown in the fifth", x.agreed(0), 4);
        x.see(2, 5, true);
        due("22: no begin", x.agreed(0), 0);
        due("22: no first", x.agreed(1), NONE);
        due("22: empty", x.agreed(2), 0);
        SandTreaty y = Check.on("t0;c1;k1 9 1 1;k1 9 1 1;");
        y.see(0, 0, true);
        due("22: has a cell", y.agreed(0), 12);
        y.see(1, 0, false);
        due("22: has no cell of its number", y.agreed(0), 12);
        y.see(0, 30, true);
        y.see(0, 31, false);
        due("22: the wind untold", y.agreed(0), 12);
        due("22: no matter what is now", y.hour(5) + y.agreed(0), 12);
    }

    private void promise23() {
        SandTreaty x = Check.on(CALM);
        due("23: h -1", x.lookAt(-1), OUTSIDE);
        due("23: h 61", x.lookAt(61), OUTSIDE);
        due("23: h 0", x.lookAt(0), NONE);
        due("23: h 60", x.lookAt(60), NONE);
        due("23: 0 and 1 alike, the least", x.lookAt(1), 0);
        due("23: all washed behind 3", x.lookAt(3), NONE);
        x.see(0, 1, false);
        due("23: those begun at a flood are alike", x.lookAt(1), NONE);
        // tides 5 once in four, 2 once in four: clause 0 in cell 3 goes at a quarter, clause 1 in cell 1 at a half
        SandTreaty y = Check.on("t5,0,2,0;c3;c1;c9;k1 9 1 1;k1 9 1 1;k1 9 1 1;");
        due("23: halves are better", y.lookAt(1), 1);
        y.see(1, 1, true);
        due("23: what is left is not parted", y.lookAt(1), NONE);
        due("23: but behind two hours", y.lookAt(2), 0);
        due("23: no strand", new SandTreaty().lookAt(5), NONE);
    }

    private void promise24() {
        SandTreaty x = Check.on(CALM);
        due("24: no clause", x.note(3, 0), UNKNOWN);
        due("24: no cell", x.note(0, 3), UNKNOWN);
        due("24: -2", x.note(0, -2), UNKNOWN);
        for (int i = 1; i <= 20; i++) {
            due("24: entry " + i, x.note(i % 3, i % 4 - 1), i);
        }
        due("24: full", x.note(0, 0), FULL);
        due("24: unknown ahead of full", x.note(9, 0), UNKNOWN);
        due("24: entries", x.told(13), 20);
    }

    private void promise25() {
        SandTreaty x = Check.on(CALM);
        due("25: empty", x.judge(), NONE);
        x.note(0, NONE);
        due("25: nowhere", x.judge(), NONE);
        x.note(1, NONE);
        x.note(2, 1);
        due("25: the third", x.judge(), 2);
        x.write(2, 1);
        due("25: there now", x.judge(), NONE);
        x.hour(3);
        x.write(1, 2);
        due("25: the second", x.judge(), 1);
        x.storm();
        due("25: gone", x.judge(), 2);
        x.write(0, 1);
        due("25: the first", x.judge(), 0);
    }

    private void promise26() {
        SandTreaty x = Check.on(CALM);
        due("26: none", x.tear(), 0);
        x.see(0, 1, true);
        x.note(0, 0);
        x.note(1, 1);
        due("26: three", x.tear(), 3);
        due("26: nothing seen", x.told(12), 0);
        due("26: no book", x.told(13), 0);
        due("26: all begins again", x.agreed(0), 12);
        due("26: none wrong", x.judge(), NONE);
        due("26: anew", x.see(0, 1, true), 1);
    }

    // ---- images

    private void promise27() {
        SandTreaty x = new SandTreaty();
        due("27: at first", x.seed(HIGHEST), 0);
        due("27: highest", x.seed(0), HIGHEST);
        due("27: -1", x.seed(-1), OUTSIDE);
        due("27: lowest", x.seed(LOWEST), OUTSIDE);
        due("27: stays", x.seed(5), 0);
    }

    private void promise28() {
        SandTreaty x = Check.on(CALM);
        x.write(0, 1);
        x.hour(2);
        due("28: -1", x.keep(-1), UNKNOWN);
        due("28: 2", x.keep(2), UNKNOWN);
        due("28: can be undone", x.told(14), 3);
        due("28: kept", x.keep(0), 1);
        due("28: nothing can be undone", x.told(14), 0);
        due("28: not", x.undo(1), NOT);
        x.hour(1);
        due("28: since", x.undo(1), 2);
        x.hour(2);
        due("28: the other image", x.keep(1), 1);
        x.storm();
        x.goBack(0);
        due("28: 0", x.told(5), 2);
        x.goBack(1);
        due("28: 1", x.told(5), 4);
        due("28: kept over", x.keep(0), 1);
        x.storm();
        x.goBack(0);
        due("28: the later one", x.told(5), 4);
    }

    private void promise29() {
        SandTreaty x = Check.on(CALM);
        due("29: -1", x.goBack(-1), UNKNOWN);
        due("29: 2", x.goBack(2), UNKNOWN);
        due("29: not kept", x.goBack(0), NOT);
        x.seed(12);
        x.write(0, 1);
        x.hour(3);
        x.write(1, 2);
        x.keep(1);
        due("29: the other one was not kept", x.goBack(0), NOT);
        x.drift(9);
        x.see(0, 1, true);
        x.note(0, 1);
        due("29: back", x.goBack(1), 1);
        int[] told = {3, 4, 3, 3, 0, 3, 5, 1, 1, 1, 1000006, 999996, 1, 1, 0};
        for (int what = 0; what < told.length; what++) {
            due("29: told " + what, x.told(what), told[what]);
        }
        due("29: cell", x.clause(0, 4), 1);
        due("29: dry", x.clause(0, 6), 1);
        due("29: being written", x.clause(1, 4), 2);
        due("29: the seed", x.seed(12), 12);
        due("29: twice the same", x.drift(9) - drifted(x), 0);
    }

    private int drifted(SandTreaty x) {
        x.goBack(1);
        return x.drift(9);
    }

    private void all() {
        promise1();
        promise2();
        faults();
        promise3();
        promise5();
        promise6();
        promise7();
        promise8();
        promise9();
        promise10();
        promise11();
        promise12();
        promise13();
        promise14();
        promise15();
        promise16();
        promise17();
        promise18();
        promise19();
        promise20();
        promise21();
        promise22();
        promise23();
        promise24();
        promise25();
        promise26();
        promise27();
        promise28();
        promise29();
        check.end("PromisesTest");
    }

    public static void main(String[] args) {
        new PromisesTest().all();
    }
}
