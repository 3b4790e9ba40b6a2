/** Section 2 of the document and promises 5 to 13: each sentence that names a boundary has a method of its own. */
public final class SandBoundsTest {
    private static final int NONE = SandTreaty.NONE;
    private static final int UNKNOWN = SandTreaty.UNKNOWN;
    private static final int OUTSIDE = SandTreaty.OUTSIDE;
    private static final int NOT = SandTreaty.NOT;
    private static final int FULL = SandTreaty.FULL;
    private static final int LOWEST = Integer.MIN_VALUE;
    private static final int HIGHEST = Integer.MAX_VALUE;

    /** Six clauses, each leaning on the one ahead, six cells that are never wet. */
    private static final String CHAIN = "t0;c1;c1;c1;c1;c1;c1;k1 9 20 0;k1 0 20 0;k1 1 20 0;k1 2 20 0;k1 3 20 0;k1 4 20 0;";

    private final Check check = new Check();

    private void where(SandTreaty x, int k, int cell, int written, int dry) {
        check.due("cell of " + k, x.clause(k, 4), cell);
        check.due("written of " + k, x.clause(k, 5), written);
        check.due("dry of " + k, x.clause(k, 6), dry);
        if (cell != NONE) {
            check.due("clause in " + cell, x.cell(cell, 1), k);
        }
    }

    /** All six clauses of CHAIN done, behind six hours. */
    private static SandTreaty chain() {
        SandTreaty x = Check.on(CHAIN);
        for (int k = 0; k < 6; k++) {
            x.write(k, k);
            x.hour(1);
        }
        return x;
    }

    // ---- wet and dry

    private void hoursFromNought() {
        check.sentence("HOURS are counted from 0");
        SandTreaty x = Check.on("t3;");
        check.due("at first", x.told(5), 0);
        x.hour(1);
        check.due("then", x.told(5), 1);
        x.hour(30);
        check.due("then", x.told(5), 31);
    }

    private void wet() {
        check.sentence("A CELL is WET in an HOUR, if its TIDE is HEIGHT or more");
        for (int tide = 0; tide <= 19; tide++) {
            for (int low = 0; low <= 19; low += 9) {
                StringBuilder text = new StringBuilder("t" + tide + ";k1 9 1 1;");
                int wet = 0;
                for (int c = 0; c < 9; c++) {
                    text.append('c').append(Math.min(19, low + c)).append(';');
                    wet |= tide >= Math.min(19, low + c) ? 1 << c : 0;
                }
                SandTreaty x = Check.on(text.toString());
                check.due(text + " wet cells", x.told(7), wet);
                for (int c = 0; c < 9; c++) {
                    boolean isWet = (wet >> c & 1) != 0;
                    check.due(text + " wet " + c, x.cell(c, 2), isWet ? 1 : 0);
                    check.due(text + " lasts in " + c, x.lasts(0, c), isWet ? NOT : 31);
                    check.due(text + " write in " + c, x.write(0, c), isWet ? NOT : 1);
                    x.rub(0);
                }
            }
        }
    }

    private void wetByHours() {
        check.sentence("An HOUR passes (h, this one): each CLAUSE in a CELL that is WET at h is WASHED (nowhere)");
        SandTreaty x = Check.on("t0,5;c5;c6;k1 9 11 12;k6 9 1 1;");
        x.write(0, 0);
        x.hour(1);
        where(x, 0, 0, 1, 0);
        check.due("it is wet this hour", x.cell(0, 2), 1);
        check.due("but not washed yet", x.told(9), 1);
        x.hour(1);
        where(x, 0, NONE, 0, 0);
        check.due("washed behind it", x.told(9), 0);
        check.due("the peace of one hour", x.told(10), 1000001);
        check.due("the peace of one hour", x.told(11), 1000002);
        SandTreaty y = Check.on("t0,5;c5;c6;k1 9 11 12;k6 9 1 1;");
        y.write(0, 1);
        y.hour(30);
        where(y, 0, 1, 1, 29);
    }

    // ---- writing

    private void writtenIf() {
        check.sentence("WRITTEN: a CLAUSE that is nowhere");
        Script done = new Script("text t0,9;c5;c12;c12;k1 9 1 1;k2 9 1 1;k3 9 1 1;", "strand", "write 0 1", "hour 1");
        check.due("in another cell already", done.made().write(0, 2), NOT);
        check.due("in this cell already", done.made().write(0, 1), NOT);
        check.due("another one", done.made().write(1, 2), 2);
        check.sentence("comes into a CELL that is not WET this HOUR");
        check.due("wet", done.made().write(1, 0), NOT);
        check.due("not wet in the next hour", done.and("hour 1").made().write(1, 0), 2);
        check.sentence("in which no CLAUSE is");
        check.due("one is in it", done.made().write(1, 1), NOT);
        check.due("rubbed out", done.and("rub 0").made().write(1, 1), 2);
        check.sentence("if THE STICK is free");
        Script writes = done.and("hour 1", "write 2 2");
        check.due("writes 2", writes.made().write(1, 0), NOT);
        check.due("writes 2 still", writes.and("hour 2").made().write(1, 0), NOT);
        check.due("2 is done, but the cell is wet", writes.and("hour 3").made().write(1, 0), NOT);
        check.due("2 is done", writes.and("hour 3", "hour 1").made().write(1, 0), 2);
        check.due("2 is rubbed out", writes.and("rub 2").made().write(1, 0), 2);
        check.due("a storm", writes.and("storm").made().write(1, 0), 2);
        check.due("as ahead of it", writes.and("undo 1").made().write(1, 0), 2);
        check.due("rubbing another one does not free it", writes.and("rub 0").made().write(1, 0), NOT);
    }

    private void nothingWrittenYet() {
        check.sentence("0 HOURS written, 0 dry; THE STICK writes it");
        SandTreaty x = Check.on("t0;w3;c5;c5;k2 9 1 1;k2 9 1 1;");
        x.write(0, 1);
        where(x, 0, 1, 0, 0);
        check.due("the stick", x.told(8), 0);
        x.hour(4);
        where(x, 0, 1, 2, 2);
        x.rub(0);
        x.write(0, 0);
        where(x, 0, 0, 0, 0);
        x.rub(0);
        x.write(1, 0);
        check.due("the stick", x.told(8), 1);
    }

    private void doneAtN() {
        check.sentence("when these are N, it is DONE, THE STICK is free");
        for (int n = 1; n <= 6; n++) {
            SandTreaty x = Check.on("t0;c5;k" + n + " 9 13 9;");
            check.due("in how many hours", x.write(0, 0), n);
            for (int h = 0; h < n; h++) {
                where(x, 0, 0, h, 0);
                check.due("the stick by " + h, x.told(8), 0);
                check.due("in force by " + h, x.told(9), 0);
                check.due("peace by " + h, x.told(10), 1000000);
                check.due("the hour " + h, x.hour(1), h == n - 1 ? 1 : 0);
            }
            where(x, 0, 0, n, 0);
            check.due("the stick", x.told(8), NONE);
            check.due("in force", x.told(9), 1);
            check.due("peace", x.told(10), 1000003);
            x.hour(1);
            where(x, 0, 0, n, 1);
        }
    }

    private void washedInItsLastHour() {
        check.sentence("Else: if THE STICK writes it, one HOUR more is written of it");
        SandTreaty x = Check.on("t0,0,5;c5;k3 9 20 20;k2 9 20 20;");
        x.write(0, 0);
        check.due("two of three", x.hour(2), 0);
        where(x, 0, 0, 2, 0);
        check.due("washed in the third", x.hour(1), 0);
        where(x, 0, NONE, 0, 0);
        check.due("no peace", x.told(10), 1000000);
        x.write(1, 0);
        check.due("two of two", x.hour(2), 2);
    }

    private void blown() {
        check.sentence("one that is DONE already is one HOUR more dry, BLOWN away (nowhere) when these are above B");
        for (int b = 1; b <= 31; b++) {
            SandTreaty x = Check.on("t0;c5;c5;k2 9 11 9;k6 9 1 1;" + (b < 31 ? "w" + b + ";" : ""));
            int holds = Math.min(b, 30);
            x.write(0, 0);
            x.hour(2);
            check.due("in force at the last hour of " + holds, x.hour(holds), 1);
            where(x, 0, 0, 2, holds);
            check.due("blown", x.hour(1), 0);
            where(x, 0, NONE, 0, 0);
            check.due("the cell is free", x.cell(0, 1), NONE);
            check.due("the peace of the hours in force", x.told(10), 1000000 + 1 + holds);
            check.due("below 0", x.told(11), 1000000 - 1 - holds);
            check.due("written again", x.write(0, 0), 2);
        }
    }

    private void stickFree() {
        check.sentence("THE STICK is free, if what it wrote is nowhere");
        Script writing = new Script("text t0,5;c5;c9;k3 9 1 1;k1 9 1 1;", "strand", "write 0 0", "hour 1");
        check.due("writes", writing.made().told(8), 0);
        check.due("washed", writing.and("hour 1").made().told(8), NONE);
        check.due("rubbed out", writing.and("rub 0").made().told(8), NONE);
        check.due("a storm", writing.and("storm").made().told(8), NONE);
        check.due("writes the next", writing.and("rub 0", "write 1 1").made().told(8), 1);
        check.due("writes it again", writing.and("hour 1", "write 0 0").made().told(8), 0);
        check.due("washed again", writing.and("hour 1", "write 0 0", "hour 2").made().told(8), NONE);
    }

    // ---- in force, rubbed, storms, peace

    private void inForce() {
        check.sentence("IN FORCE are CLAUSES that are DONE, and so is what they LEAN on, and what that LEANS on, and on");
        check.due("all six", chain().told(9), 63);
        for (int k = 0; k < 6; k++) {
            SandTreaty x = chain();
            x.rub(k);
            check.due("without " + k, x.told(9), (1 << k) - 1);
            x.write(k, k);
            check.due("begun again " + k, x.told(9), (1 << k) - 1);
            check.due("done again " + k, x.hour(1), 63);
        }
        SandTreaty y = Check.on(CHAIN);
        for (int k = 5; k >= 0; k--) {
            y.write(k, k);
            check.due("from the last on, " + k, y.hour(1), k == 0 ? 63 : 0);
        }
    }

    private void rubbed() {
        check.sentence("RUBBED out: HOURS written. UNKNOWN, NOT: it is nowhere");
        for (int h = 0; h <= 7; h++) {
            SandTreaty x = Check.on("t0;w1;c5;k5 9 1 1;");
            check.due("nowhere", x.rub(0), NOT);
            x.write(0, 0);
            if (h > 0) {
                x.hour(h);
            }
            check.due("behind " + h, x.rub(0), h == 7 ? NOT : Math.min(h, 5));
            where(x, 0, NONE, 0, 0);
            check.due("again", x.rub(0), NOT);
            check.due("the cell is free", x.cell(0, 1), NONE);
            check.due("hours", x.told(5), h);
        }
    }

    private void storms() {
        check.sentence("A STORM: how many CLAUSES went");
        for (int count = 0; count <= 6; count++) {
            SandTreaty x = Check.on(CHAIN);
            for (int k = 0; k < count; k++) {
                x.write(k, k);
                if (k < count - 1) {
                    x.hour(1);
                }
            }
            check.due("went", x.storm(), count);
            for (int k = 0; k < 6; k++) {
                where(x, k, NONE, 0, 0);
                check.due("cell " + k, x.cell(k, 1), NONE);
            }
            check.due("stick", x.told(8), NONE);
            check.due("again", x.storm(), 0);
        }
        check.due("neither clauses nor cells", Check.on("t0;").storm(), 0);
        check.sentence("NOT: no STRAND");
        check.due("no strand", new SandTreaty().storm(), NOT);
    }

    private void peace() {
        check.sentence("PEACE: each HOUR that passes counts, for each shore, what the CLAUSES that are IN FORCE behind it are "
            + "worth to it (may be below 0)");
        SandTreaty x = chain();
        int hours = 1 + 2 + 3 + 4 + 5 + 6;
        check.due("of the one", x.told(10), 1000000 + 10 * hours);
        check.due("of the other one", x.told(11), 1000000 - 10 * hours);
        x.hour(20);
        check.due("all six on", x.told(10), 1000000 + 10 * hours + 20 * 60);
        check.due("all six on", x.told(11), 1000000 - 10 * hours - 20 * 60);
        x.storm();
        x.hour(5);
        check.due("none any more", x.told(10), 1000000 + 10 * hours + 20 * 60);
        SandTreaty y = Check.on("t0;c5;k1 9 10 10;");
        y.write(0, 0);
        y.hour(5);
        check.due("worth nothing", y.told(10), 1000000);
        check.due("worth nothing", y.told(11), 1000000);
    }

    // ---- promises 5 to 7

    private void toldBounds() {
        check.sentence("0 TIDES told (0 without a STRAND), 1 B (0)");
        SandTreaty none = new SandTreaty();
        int[] empty = {0, 0, 0, 0, 0, 0, 0, 0, NONE, 0, 1000000, 1000000, 0, 0, 0};
        for (int what = 0; what <= 14; what++) {
            check.due("told " + what, none.told(what), empty[what]);
        }
        check.sentence("14 how many can be undone. OUTSIDE");
        int[] outside = {-1, 15, 16, LOWEST, HIGHEST};
        for (int what : outside) {
            check.due("told " + what, none.told(what), OUTSIDE);
            check.due("told " + what, Check.on(CHAIN).told(what), OUTSIDE);
        }
        for (int n = 0; n <= 33; n++) {
            SandTreaty x = Check.on("t1;");
            for (int i = 0; i < n; i++) {
                x.storm();
            }
            check.due("behind " + n, x.told(14), Math.min(n, 30));
        }
    }

    private void clauseBounds() {
        check.sentence("Of a CLAUSE: what = 0 N, .. 6 HOURS dry. UNKNOWN, OUTSIDE");
        for (int count = 0; count <= 6; count++) {
            SandTreaty x = Check.on("t1;" + "k4 9 7 8;".repeat(count));
            int[] want = {4, NONE, 7, 8, NONE, 0, 0};
            for (int k = 0; k < count; k++) {
                for (int what = 0; what <= 6; what++) {
                    check.due("clause " + k + " " + what, x.clause(k, what), want[what]);
                }
                check.due("what -1", x.clause(k, -1), OUTSIDE);
                check.due("what 7", x.clause(k, 7), OUTSIDE);
                check.due("what lowest", x.clause(k, LOWEST), OUTSIDE);
                check.due("what highest", x.clause(k, HIGHEST), OUTSIDE);
            }
            int[] unknown = {-1, count, count + 1, LOWEST, HIGHEST};
            for (int k : unknown) {
                check.due("clause " + k + " of " + count, x.clause(k, 0), UNKNOWN);
                check.due("clause " + k + " of " + count + ", what 7", x.clause(k, 7), UNKNOWN);
            }
        }
    }

    private void cellBounds() {
        check.sentence("Of a CELL: what = 0 HEIGHT, 1 the CLAUSE in it (NONE), 2 1 it is WET, 0 not. UNKNOWN, OUTSIDE");
        for (int count = 0; count <= 9; count++) {
            SandTreaty x = Check.on("t8;" + "c9;".repeat(count));
            for (int c = 0; c < count; c++) {
                check.due("height", x.cell(c, 0), 9);
                check.due("clause in it", x.cell(c, 1), NONE);
                check.due("wet", x.cell(c, 2), 0);
                check.due("what -1", x.cell(c, -1), OUTSIDE);
                check.due("what 3", x.cell(c, 3), OUTSIDE);
                check.due("what lowest", x.cell(c, LOWEST), OUTSIDE);
                check.due("what highest", x.cell(c, HIGHEST), OUTSIDE);
            }
            int[] unknown = {-1, count, count + 1, LOWEST, HIGHEST};
            for (int c : unknown) {
                check.due("cell " + c + " of " + count, x.cell(c, 0), UNKNOWN);
                check.due("cell " + c + " of " + count + ", what 3", x.cell(c, 3), UNKNOWN);
            }
        }
    }

    // ---- promises 11 to 13

    private void howManyHours() {
        check.sentence("n HOURS (1 .. 30) pass .. n HOURS BY DRAWS (1 .. 30): IN FORCE. OUTSIDE");
        int[] outside = {0, -1, 31, 32, LOWEST, HIGHEST};
        for (int n : outside) {
            SandTreaty x = Check.on("t1;");
            check.due("hour " + n, x.hour(n), OUTSIDE);
            check.due("drift " + n, x.drift(n), OUTSIDE);
            check.due("hours", x.told(5), 0);
            check.due("hour " + n + ", no strand", new SandTreaty().hour(n), OUTSIDE);
            check.due("drift " + n + ", no strand", new SandTreaty().drift(n), OUTSIDE);
        }
        for (int n = 1; n <= 30; n++) {
            SandTreaty x = Check.on("t1;");
            check.due("hour " + n, x.hour(n), 0);
            check.due("hours", x.told(5), n);
            check.due("drift " + n, x.drift(n), 0);
            check.due("hours", x.told(5), 2 * n);
            check.due("hour " + n + ", no strand", new SandTreaty().hour(n), NOT);
            check.due("drift " + n + ", no strand", new SandTreaty().drift(n), NOT);
        }
    }

    private void lateHours() {
        check.sentence("FULL: HOURS are above 9000");
        Script at8999 = new Script("text t1,5;c3;", "strand", "299 * hour 30", "hour 29");
        check.due("8999", at8999.made().told(5), 8999);
        check.due("30 from 8999", at8999.made().hour(30), 0);
        check.due("30 drawn from 8999", at8999.made().drift(30), 0);
        SandTreaty x = at8999.and("hour 1").made();
        check.due("9000", x.told(5), 9000);
        check.due("30 from 9000", x.hour(30), 0);
        check.due("9030", x.told(5), 9030);
        full(x);
        SandTreaty y = at8999.and("hour 1").made();
        check.due("30 drawn from 9000", y.drift(30), 0);
        check.due("9030", y.told(5), 9030);
        full(y);
        SandTreaty z = at8999.and("hour 2").made();
        check.due("9001", z.told(5), 9001);
        full(z);
        check.due("undone", z.undo(1), 9000);
        check.due("then it passes", z.hour(1), 0);
        full(z);
        SandTreaty kept = at8999.and("hour 1", "keep 1", "hour 1").made();
        full(kept);
        kept.goBack(1);
        check.due("gone back", kept.drift(1), 0);
        full(kept);
        Check.feed(kept, "t1;");
        kept.strand();
        check.due("from 0 again", kept.hour(30), 0);
    }

    private void full(SandTreaty x) {
        int hours = x.told(5);
        check.due("1 hour at " + hours, x.hour(1), FULL);
        check.due("30 hours at " + hours, x.hour(30), FULL);
        check.due("1 drawn at " + hours, x.drift(1), FULL);
        check.due("30 drawn at " + hours, x.drift(30), FULL);
        check.due("0 hours at " + hours, x.hour(0), OUTSIDE);
        check.due("31 drawn at " + hours, x.drift(31), OUTSIDE);
        check.due("hours", x.told(5), hours);
    }

    private void undoBounds() {
        check.sentence("The n latest (1 .. 30) are undone: HOURS. OUTSIDE, NOT: not so many");
        int[] outside = {0, -1, 31, 32, LOWEST, HIGHEST};
        for (int n : outside) {
            check.due("undo " + n + ", no strand", new SandTreaty().undo(n), OUTSIDE);
            SandTreaty x = Check.on("t1;");
            x.hour(30);
            x.hour(30);
            check.due("undo " + n, x.undo(n), OUTSIDE);
            check.due("hours", x.told(5), 60);
        }
        for (int deeds = 0; deeds <= 30; deeds++) {
            for (int n = 1; n <= 30; n++) {
                SandTreaty x = Check.on("t1;");
                if (deeds > 0) {
                    x.hour(deeds);
                }
                check.due("undo " + n + " of " + deeds, x.undo(n), n <= deeds ? deeds - n : NOT);
                check.due("left", x.told(14), n <= deeds ? deeds - n : deeds);
                check.due("hours", x.told(5), n <= deeds ? deeds - n : deeds);
            }
        }
    }

    private void keptToUndo() {
        check.sentence("UNDONE: the latest deeds .. (30 at most are kept)");
        for (int deeds = 29; deeds <= 95; deeds++) {
            SandTreaty x = Check.on("t1;");
            for (int i = 0; i < deeds; i++) {
                x.hour(1);
            }
            check.due("kept of " + deeds, x.told(14), Math.min(30, deeds));
            check.due("the latest 29", x.undo(29), deeds - 29);
            check.due("left", x.told(14), Math.min(30, deeds) - 29);
            check.due("one more", x.undo(1), deeds >= 30 ? deeds - 30 : NOT);
            check.due("no more", x.undo(1), NOT);
        }
    }

    /** Undone and done again so often that the place where deeds are kept comes round. */
    private void undoneAgainAndAgain() {
        check.sentence("all of section 2 is as ahead of them");
        String[] deeds = {"write 0 0", "hour 1", "write 1 1", "hour 1", "hour 1", "rub 0", "write 2 2", "drift 1", "storm",
            "write 2 0", "hour 1", "drift 1", "hour 1"};
        for (int n = 1; n <= 30; n++) {
            SandTreaty x = Check.on("t0,0,0,5;w9;c5;c6;c7;k1 9 12 3;k2 0 4 20;k3 9 10 11;");
            String ahead = "";
            int done = 0;
            for (int i = 0; done < 45; i++) {
                ahead = done == 45 - n ? Script.sand(x) : ahead;
                if (Script.call(x, deeds[i % deeds.length]) > UNKNOWN) {
                    done++;
                }
            }
            x.undo(n);
            check.same("behind undo " + n, Script.sand(x), ahead);
        }
        SandTreaty y = Check.on("t1;");
        int hours = 0;
        for (int i = 0; i < 40; i++) {
            y.hour(7);
            hours += 7;
            check.due("three of seven", y.undo(3), hours - 3);
            hours -= 3;
            check.due("can be undone", y.told(14), Math.min(30, Math.min(30, 4 * i + 7) - 3));
        }
    }

    private void refusedIsNoDeed() {
        check.sentence("the latest deeds (write(), rub(), storm(), each HOUR, with what is DRAWN)");
        SandTreaty x = Check.on("t0;c5;c5;k1 9 1 1;k1 9 1 1;");
        String[] one = {"write 0 0", "rub 0", "storm", "hour 1", "drift 1"};
        int deeds = 0;
        for (String deed : one) {
            Script.call(x, deed);
            deeds++;
            check.due("behind " + deed, x.told(14), deeds);
        }
        String[] none = {"write 2 0", "write 0 2", "rub 2", "hour 0", "drift 31", "undo 0", "undo 6", "seed 5", "see 0 1 true",
            "note 0 0", "tear", "keep 2", "goBack 0", "plan 1 1 -1", "lasts 0 1", "text t1;", "feed 300"};
        for (String call : none) {
            Script.call(x, call);
            check.due("behind " + call, x.told(14), deeds);
        }
        x.hour(7);
        check.due("seven hours", x.told(14), deeds + 7);
        x.drift(7);
        check.due("seven drawn hours", x.told(14), deeds + 14);
    }

    private void all() {
        hoursFromNought();
        wet();
        wetByHours();
        writtenIf();
        nothingWrittenYet();
        doneAtN();
        washedInItsLastHour();
        blown();
        stickFree();
        inForce();
        rubbed();
        storms();
        peace();
        toldBounds();
        clauseBounds();
        cellBounds();
        howManyHours();
        lateHours();
        undoBounds();
        keptToUndo();
        undoneAgainAndAgain();
        refusedIsNoDeed();
        check.end("SandBoundsTest");
    }

    public static void main(String[] args) {
        new SandBoundsTest().all();
    }
}
