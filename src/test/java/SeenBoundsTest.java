/** What was seen and the book, promises 21 to 26: each sentence that names a boundary has a method of its own. */
public final class SeenBoundsTest {
    private static final int NONE = SandTreaty.NONE;
    private static final int UNKNOWN = SandTreaty.UNKNOWN;
    private static final int OUTSIDE = SandTreaty.OUTSIDE;
    private static final int FULL = SandTreaty.FULL;
    private static final int LOWEST = Integer.MIN_VALUE;
    private static final int HIGHEST = Integer.MAX_VALUE;
    private static final int ALL_BEGINS = 4095;

    private final Check check = new Check();

    /** Tides of so many hours, high in one of them alone. */
    private static String highAt(int hour, int count) {
        StringBuilder s = new StringBuilder("t");
        for (int i = 0; i < count; i++) {
            s.append(i == 0 ? "" : ",").append(i == hour ? 5 : 0);
        }
        return s.append(';').toString();
    }

    private void agrees(String what, SandTreaty x, int begins) {
        check.due(what + ": how many", x.agreed(0), Integer.bitCount(begins));
        check.due(what + ": the first", x.agreed(1), begins == 0 ? NONE : Integer.numberOfTrailingZeros(begins));
        check.due(what + ": the set", x.agreed(2), begins);
    }

    // ---- promise 21

    private void seenHours() {
        check.sentence("a CLAUSE was IN FORCE, or not, behind h HOURS (0 .. 60)");
        int[] outside = {-1, -2, 61, 62, LOWEST, HIGHEST};
        for (int h : outside) {
            SandTreaty x = Check.on("t0;c5;k1 9 1 1;");
            check.due("see behind " + h, x.see(0, h, true), OUTSIDE);
            check.due("not see behind " + h, x.see(0, h, false), OUTSIDE);
            check.due("seen", x.told(12), 0);
        }
        for (int h = 0; h <= 60; h++) {
            SandTreaty x = Check.on("t0;c5;k1 9 1 1;");
            check.due("see behind " + h, x.see(0, h, true), 1);
            agrees("see behind " + h, x, h <= 30 ? ALL_BEGINS : 0);
            x.tear();
            check.due("not see behind " + h, x.see(0, h, false), 1);
            agrees("not see behind " + h, x, h <= 30 ? 0 : ALL_BEGINS);
        }
    }

    private void seenClauses() {
        check.sentence("SEEN: how much. UNKNOWN, OUTSIDE, FULL (8)");
        for (int count = 0; count <= 6; count++) {
            SandTreaty x = Check.on("t0;" + "k1 9 1 1;".repeat(count));
            int[] unknown = {-1, count, count + 1, LOWEST, HIGHEST};
            for (int k : unknown) {
                check.due("see " + k + " of " + count, x.see(k, 0, true), UNKNOWN);
                check.due("see " + k + " of " + count + " behind 61", x.see(k, 61, true), UNKNOWN);
            }
            check.due("seen", x.told(12), 0);
            for (int k = 0; k < count; k++) {
                check.due("see " + k, x.see(k, 0, false), k + 1);
            }
        }
        check.due("no strand", new SandTreaty().see(0, 0, true), UNKNOWN);
    }

    private void seenAtMost() {
        check.sentence("SEEN (8 at most)");
        SandTreaty x = Check.on("t0;c5;k1 9 1 1;");
        for (int i = 1; i <= 8; i++) {
            check.due("the same once more", x.see(0, 0, true), i);
            check.due("seen", x.told(12), i);
        }
        check.due("the ninth", x.see(0, 0, false), FULL);
        check.due("the ninth, outside", x.see(0, 61, false), OUTSIDE);
        check.due("the ninth, unknown", x.see(1, 61, false), UNKNOWN);
        check.due("seen", x.told(12), 8);
        agrees("the ninth does not count", x, ALL_BEGINS);
        x.tear();
        check.due("there is room again", x.see(0, 0, false), 1);
        for (int wrong = 0; wrong < 8; wrong++) {
            SandTreaty y = Check.on("t0;c5;k1 9 1 1;");
            for (int i = 0; i < 8; i++) {
                agrees("all so far", y, i <= wrong ? ALL_BEGINS : 0);
                y.see(0, 3, i != wrong);
            }
            agrees("one of eight is otherwise", y, 0);
        }
    }

    // ---- promise 22

    private void begins() {
        check.sentence("begins b (HOURS 0 .. 11) by which all that is SEEN is so");
        for (int wet = 0; wet < 12; wet++) {
            for (int h = 0; h <= 13; h++) {
                int washed = 0;
                for (int begin = 0; begin < 12; begin++) {
                    washed |= Math.floorMod(wet - begin, 12) < h ? 1 << begin : 0;
                }
                SandTreaty x = Check.on(highAt(wet, 12) + "c5;k1 9 1 1;");
                x.see(0, h, false);
                agrees("high at " + wet + ", gone behind " + h, x, washed);
                x.tear();
                x.see(0, h, true);
                agrees("high at " + wet + ", there behind " + h, x, ALL_BEGINS - washed);
            }
        }
    }

    private void beginsOfFewTides() {
        check.sentence("HOUR h has the one of h left over by how many");
        for (int count = 1; count <= 12; count++) {
            for (int wet = 0; wet < count; wet++) {
                int washed = 0;
                for (int begin = wet; begin < 12; begin += count) {
                    washed |= 1 << begin;
                }
                SandTreaty x = Check.on(highAt(wet, count) + "c5;k1 9 1 1;");
                x.see(0, 1, false);
                agrees(count + " tides, high at " + wet, x, washed);
            }
        }
    }

    private void beginsAllDone() {
        check.sentence("if all CLAUSES were DONE, .. 0 HOURS dry, at HOUR b, and h HOURS passed since");
        for (int b = 1; b <= 30; b++) {
            SandTreaty x = Check.on("t0;w" + b + ";c5;k6 9 1 1;");
            x.see(0, 0, true);
            x.see(0, b, true);
            x.see(0, b + 1, false);
            agrees("held " + b, x, ALL_BEGINS);
            x.see(0, b + 1, true);
            agrees("held " + b + ", no hour more", x, 0);
        }
        SandTreaty wet = Check.on("t9;c0;k6 9 1 1;");
        wet.see(0, 0, true);
        agrees("wet, but no hour passed", wet, ALL_BEGINS);
        wet.see(0, 1, true);
        agrees("one hour passed", wet, 0);
    }

    private void beginsInCells() {
        check.sentence("each in the CELL of its number (those without such a CELL nowhere)");
        for (int cells = 0; cells <= 9; cells++) {
            String text = "t0;" + "c5;".repeat(cells) + "k1 9 1 1;".repeat(6);
            for (int k = 0; k < 6; k++) {
                SandTreaty x = Check.on(text);
                x.see(k, 0, true);
                agrees(k + " in one of " + cells, x, k < cells ? ALL_BEGINS : 0);
                x.tear();
                x.see(k, 0, false);
                agrees(k + " nowhere of " + cells, x, k < cells ? 0 : ALL_BEGINS);
            }
        }
        // cell 2 is the only one that is wet at all, at 3
        SandTreaty y = Check.on(highAt(3, 12) + "c9;c9;c5;c9;k1 9 1 1;k1 9 1 1;k1 9 1 1;k1 2 1 1;");
        for (int k = 0; k < 4; k++) {
            y.see(k, 1, false);
            agrees("gone behind 1: " + k, y, k < 2 ? 0 : 8);
            y.tear();
        }
    }

    private void beginsWhateverIsNow() {
        check.sentence("AGREED: begins .. if all CLAUSES were DONE");
        String[] states = {"storm", "hour 7", "drift 30", "keep 0", "seed 9", "note 0 0", "text x"};
        Script s = new Script("text " + highAt(4, 12) + "c5;c5;k2 9 1 1;k1 0 1 1;", "strand", "see 0 2 false", "write 1 1",
            "hour 1");
        agrees("ahead of all", s.made(), 8 + 16);
        for (String state : states) {
            agrees("behind " + state, s.and(state).made(), 8 + 16);
        }
    }

    private void agreedWhat() {
        check.sentence("what = 0 how many, 1 the first (NONE), 2 the SET of HOURS (without a STRAND: 0, NONE, 0). OUTSIDE");
        int[] outside = {-1, -2, 3, 4, LOWEST, HIGHEST};
        SandTreaty none = new SandTreaty();
        SandTreaty bare = Check.on("t0;");
        for (int what : outside) {
            check.due("agreed " + what + ", no strand", none.agreed(what), OUTSIDE);
            check.due("agreed " + what, bare.agreed(what), OUTSIDE);
        }
        agrees("no strand", none, 0);
        agrees("neither clauses nor cells, nothing seen", bare, ALL_BEGINS);
        bare.strand();
        agrees("the empty text behind it", bare, 0);
        SandTreaty x = Check.on("t0;c5;k1 9 1 1;");
        agrees("nothing seen", x, ALL_BEGINS);
        x.see(0, 1, true);
        x.see(0, 1, false);
        agrees("both cannot be", x, 0);
    }

    // ---- promise 23

    private void lookHours() {
        check.sentence("LOOK AT: the CLAUSE by which, behind a told h, these begins are told apart best");
        int[] outside = {-1, -2, 61, 62, LOWEST, HIGHEST};
        for (int h : outside) {
            check.due("look behind " + h, Check.on(highAt(0, 2) + "c5;k1 9 1 1;").lookAt(h), OUTSIDE);
            check.due("look behind " + h + ", no strand", new SandTreaty().lookAt(h), OUTSIDE);
        }
        // washed by all begins behind twelve hours, by none behind no hour, by some between
        SandTreaty x = Check.on(highAt(5, 12) + "c5;k1 9 1 1;");
        for (int h = 0; h <= 60; h++) {
            check.due("look behind " + h, x.lookAt(h), h >= 1 && h <= 11 ? 0 : NONE);
            check.due("look behind " + h + ", no strand", new SandTreaty().lookAt(h), NONE);
        }
    }

    private void nonePartsThem() {
        check.sentence("NONE: none parts them");
        check.due("no clauses", Check.on("t0,5;c3;").lookAt(1), NONE);
        check.due("no cells", Check.on("t0,5;k1 9 1 1;").lookAt(1), NONE);
        check.due("never wet", Check.on("t0,5;c9;k1 9 1 1;").lookAt(1), NONE);
        check.due("always wet", Check.on("t5,6;c3;k1 9 1 1;").lookAt(1), NONE);
        Script s = new Script("text " + highAt(5, 12) + "c5;k1 9 1 1;", "strand");
        check.due("some are", s.made().lookAt(3), 0);
        check.due("one begin left", s.and("see 0 1 false").made().lookAt(3), NONE);
        check.due("no begin left", s.and("see 0 0 false").made().lookAt(3), NONE);
        check.due("two begins left", s.and("see 0 2 false").made().lookAt(1), 0);
        check.due("two begins left, both washed", s.and("see 0 2 false").made().lookAt(2), NONE);
    }

    /** Tides fall from 12 to 1: each cell is wet from hour 0 on, for as many of twelve hours as told. */
    private static String wetFor(int... hours) {
        StringBuilder s = new StringBuilder("t");
        for (int i = 0; i < 12; i++) {
            s.append(i == 0 ? "" : ",").append(12 - i);
        }
        s.append(';');
        for (int wet : hours) {
            s.append('c').append(13 - wet).append(';');
        }
        return s + "k1 9 1 1;".repeat(hours.length);
    }

    private void greatestPartLeast() {
        check.sentence("the greatest part alike is least; of like ones the least");
        for (int wet = 1; wet <= 11; wet++) {
            check.due("one is wet for " + wet, Check.on(wetFor(wet)).lookAt(1), 0);
        }
        check.due("a half is least", Check.on(wetFor(1, 5, 6, 7, 11)).lookAt(1), 2);
        check.due("7 of 12 is less than 8 of 12", Check.on(wetFor(4, 8, 5)).lookAt(1), 2);
        check.due("7 and 5 are like 5 and 7", Check.on(wetFor(4, 5, 7)).lookAt(1), 1);
        check.due("5 and 7 are like 7 and 5", Check.on(wetFor(4, 7, 5)).lookAt(1), 1);
        check.due("like ones", Check.on(wetFor(6, 6, 6, 6, 6, 6)).lookAt(1), 0);
        check.due("the last one", Check.on(wetFor(1, 2, 3, 4, 5, 6)).lookAt(1), 5);
        check.due("11 of 12 is less than 12 of 12", Check.on(wetFor(12, 11)).lookAt(1), 1);
    }

    private void lookAmongAgreed() {
        check.sentence("these begins are told apart best");
        // tides fall from 12 at hour 0 to 1 at hour 11; begun at 0 to 5 clause 0 goes in the first hour
        SandTreaty x = Check.on(wetFor(6, 3, 9));
        check.due("of all", x.lookAt(1), 0);
        x.see(0, 1, false);
        agrees("the first six", x, 63);
        check.due("halves of the six", x.lookAt(1), 1);
        x.tear();
        x.see(0, 1, true);
        check.due("halves of the other six", x.lookAt(1), 2);
        x.see(1, 1, true);
        check.due("these are alike in 0 and 1", x.lookAt(1), 2);
        x.see(2, 1, true);
        check.due("and now in 2", x.lookAt(1), NONE);
    }

    // ---- promises 24 to 26

    private void noteBounds() {
        check.sentence("THE BOOK .. tells in which CELL CLAUSES are (NONE: nowhere)");
        for (int cells = 0; cells <= 9; cells++) {
            SandTreaty x = Check.on("t0;" + "c5;".repeat(cells) + "k1 9 1 1;k1 9 1 1;");
            int[] noCell = {-2, -3, cells, cells + 1, LOWEST, HIGHEST};
            for (int c : noCell) {
                check.due("cell " + c + " of " + cells, x.note(1, c), UNKNOWN);
            }
            int[] noClause = {-1, 2, 3, LOWEST, HIGHEST};
            for (int k : noClause) {
                check.due("clause " + k, x.note(k, NONE), UNKNOWN);
                check.due("clause " + k + " in no cell", x.note(k, cells), UNKNOWN);
            }
            check.due("entries", x.told(13), 0);
            for (int c = NONE; c < cells; c++) {
                check.due("cell " + c + " of " + cells, x.note(1, c), c + 2);
                check.due("entries", x.told(13), c + 2);
            }
        }
        check.due("no strand", new SandTreaty().note(0, NONE), UNKNOWN);
    }

    private void bookAtMost() {
        check.sentence("An entry behind THE BOOK: how many. UNKNOWN, FULL (20)");
        SandTreaty x = Check.on("t0;c5;k1 9 1 1;");
        for (int i = 1; i <= 20; i++) {
            check.due("entry", x.note(0, NONE), i);
        }
        check.due("the 21st", x.note(0, 0), FULL);
        check.due("the 21st, no clause", x.note(1, 0), UNKNOWN);
        check.due("the 21st, no cell", x.note(0, 1), UNKNOWN);
        check.due("entries", x.told(13), 20);
        check.due("the 21st does not count", x.judge(), NONE);
        x.tear();
        check.due("there is room again", x.note(0, 0), 1);
    }

    private void firstWrong() {
        check.sentence("WRONG: the first that is otherwise now; NONE");
        check.due("no strand", new SandTreaty().judge(), NONE);
        check.due("no entry", Check.on("t0;c5;k1 9 1 1;").judge(), NONE);
        for (int wrong = 0; wrong < 20; wrong++) {
            SandTreaty x = Check.on("t0;c5;k1 9 1 1;");
            for (int i = 0; i < 20; i++) {
                x.note(0, i == wrong || i == 19 ? 0 : NONE);
                check.due("behind entry " + i, x.judge(), i < wrong ? NONE : wrong);
            }
            x.write(0, 0);
            check.due("written there", x.judge(), wrong == 0 ? 1 : 0);
        }
        for (int k = 0; k < 6; k++) {
            SandTreaty x = Check.on("t0;c5;c5;" + "k1 9 1 1;".repeat(6));
            x.write(k, 1);
            for (int other = 0; other < 6; other++) {
                x.note(other, NONE);
                check.due("only " + k + " is there", x.judge(), other < k ? NONE : k);
            }
            x.tear();
            x.note(k, 1);
            check.due(k + " is there", x.judge(), NONE);
        }
        whenItGoes();
    }

    private void whenItGoes() {
        SandTreaty y = Check.on("t0,0,5;c5;c9;k1 9 1 1;k1 9 1 1;");
        y.note(0, 0);
        check.due("nowhere", y.judge(), 0);
        y.write(0, 1);
        check.due("in another cell", y.judge(), 0);
        y.rub(0);
        y.write(0, 0);
        check.due("there, not done", y.judge(), NONE);
        y.hour(2);
        check.due("there", y.judge(), NONE);
        y.hour(1);
        check.due("washed", y.judge(), 0);
        y.undo(1);
        check.due("there again", y.judge(), NONE);
        y.storm();
        check.due("a storm", y.judge(), 0);
        y.rub(0);
        y.write(1, 1);
        y.note(1, 0);
        check.due("gone with the storm, and another one in another cell", y.judge(), 0);
        y.write(0, 1);
        check.due("refused, so still gone", y.judge(), 0);
    }

    private void torn() {
        check.sentence("Nothing SEEN, no BOOK: how much both had");
        check.due("no strand", new SandTreaty().tear(), 0);
        for (int seen = 0; seen <= 8; seen++) {
            for (int noted = 0; noted <= 20; noted++) {
                Script s = new Script("text t0,5;c3;k1 9 1 1;", "strand", seen + " * see 0 1 true", noted + " * note 0 0");
                SandTreaty x = s.made();
                check.due(seen + " and " + noted, x.tear(), seen + noted);
                check.due("nothing seen", x.told(12), 0);
                check.due("no book", x.told(13), 0);
                agrees("nothing seen", x, ALL_BEGINS);
                check.due("no book", x.judge(), NONE);
                check.due("again", x.tear(), 0);
            }
        }
        Script one = new Script("text t0,5;c3;k1 9 1 1;", "strand", "write 0 0", "hour 1", "keep 1", "hour 1", "seed 5");
        check.same("all else stays", one.print("8 * see 0 1 true", "20 * note 0 0", "tear"), one.print());
        check.due("undone hours do not bring it back", one.and("note 0 0", "tear", "undo 1", "judge").made().told(13), 0);
        check.due("nor does an image", one.and("see 0 0 true", "keep 0", "tear", "goBack 0").made().told(12), 0);
    }

    private void all() {
        seenHours();
        seenClauses();
        seenAtMost();
        begins();
        beginsOfFewTides();
        beginsAllDone();
        beginsInCells();
        beginsWhateverIsNow();
        agreedWhat();
        lookHours();
        nonePartsThem();
        greatestPartLeast();
        lookAmongAgreed();
        noteBounds();
        bookAtMost();
        firstWrong();
        torn();
        check.end("SeenBoundsTest");
    }

    public static void main(String[] args) {
        new SeenBoundsTest().all();
    }
}
