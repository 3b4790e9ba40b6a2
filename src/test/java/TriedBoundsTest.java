/** What section 3 of the document tries, promises 14 to 20: each sentence that names a boundary has a method of its own. */
public final class TriedBoundsTest {
    private static final int NONE = SandTreaty.NONE;
    private static final int UNKNOWN = SandTreaty.UNKNOWN;
    private static final int OUTSIDE = SandTreaty.OUTSIDE;
    private static final int NOT = SandTreaty.NOT;
    private static final int LOWEST = Integer.MIN_VALUE;
    private static final int HIGHEST = Integer.MAX_VALUE;

    private final Check check = new Check();

    // ---- promise 14

    private void lasts() {
        check.sentence("LASTS: behind how many of the next 100 HOURS a CLAUSE would be IN FORCE");
        for (int n = 1; n <= 6; n++) {
            for (int b = 1; b <= 30; b++) {
                SandTreaty x = Check.on("t4;c5;k" + n + " 9 1 1;w" + b + ";");
                check.due(n + " to write, held " + b, x.lasts(0, 0), b + 1);
            }
            // bare for five hours, then wet
            SandTreaty y = Check.on("t0,0,0,0,0,5;c5;k" + n + " 9 1 1;");
            check.due(n + " to write in five hours", y.lasts(0, 0), Math.max(0, 6 - n));
            y.hour(4);
            check.due(n + " to write in one hour", y.lasts(0, 0), n == 1 ? 1 : 0);
            y.hour(1);
            check.due("wet", y.lasts(0, 0), NOT);
        }
        check.due("the longest", Check.on("t18;c19;k6 9 1 1;").lasts(0, 0), 31);
    }

    private void lastsLeaning() {
        check.sentence("if it were WRITTEN now in a CELL");
        SandTreaty x = Check.on("t0;w5;c1;c1;k1 9 1 1;k1 0 1 1;k1 1 1 1;");
        check.due("leans on none that is there", x.lasts(1, 1), 0);
        x.write(0, 0);
        x.hour(1);
        check.due("leans on one that has 5 hours", x.lasts(1, 1), 5);
        check.due("leans on one that is not there", x.lasts(2, 1), 0);
        x.hour(4);
        check.due("one hour", x.lasts(1, 1), 1);
        x.hour(1);
        check.due("none", x.lasts(1, 1), 0);
    }

    private void lastsWithTheStick() {
        check.sentence("(THE STICK is freed ahead; what it writes now stays there as far as it is written, till it is WASHED)");
        SandTreaty x = Check.on("t0,0,0,0,0,0,0,0,5;w2;c1;c9;c9;k3 9 1 1;k1 9 1 1;k1 0 1 1;");
        x.write(0, 1);
        x.hour(2);
        check.due("while it writes another one", x.lasts(1, 2), 3);
        check.due("what leans on that", x.lasts(2, 2), 0);
        check.due("where that is", x.lasts(1, 1), NOT);
        check.due("it writes on", x.told(8), 0);
        x.hour(1);
        check.due("what leans on it when it is done", x.lasts(2, 2), 2);
    }

    private void lastsRefused() {
        check.sentence("UNKNOWN, NOT: it is not nowhere; the CELL is WET, or a CLAUSE is in it");
        Script s = new Script("text t0,5;c5;c9;c9;k1 9 1 1;k6 9 1 1;", "strand", "write 0 1", "hour 1");
        check.due("is done there", s.made().lasts(0, 2), NOT);
        check.due("wet", s.made().lasts(1, 0), NOT);
        check.due("one is in it", s.made().lasts(1, 1), NOT);
        check.due("nowhere, bare, free", s.made().lasts(1, 2), 31);
        check.due("is being written", s.and("write 1 2").made().lasts(1, 2), NOT);
        check.due("bare in the next hour", s.and("hour 1", "rub 0").made().lasts(0, 0), 1);
        int[] noClause = {-1, 2, LOWEST, HIGHEST};
        for (int k : noClause) {
            check.due("clause " + k, s.made().lasts(k, 2), UNKNOWN);
            check.due("clause " + k + " in a wet cell", s.made().lasts(k, 0), UNKNOWN);
        }
        int[] noCell = {-1, 3, LOWEST, HIGHEST};
        for (int c : noCell) {
            check.due("cell " + c, s.made().lasts(1, c), UNKNOWN);
            check.due("cell " + c + " for one that is not nowhere", s.made().lasts(0, c), UNKNOWN);
        }
    }

    // ---- promise 15

    private void washed() {
        check.sentence("WASHED: in how many HOURS from now a CLAUSE is nowhere (0: it is; 100 at most: NONE)");
        for (int n = 1; n <= 6; n++) {
            for (int b = 1; b <= 30; b++) {
                SandTreaty x = Check.on("t4;c5;k" + n + " 9 1 1;w" + b + ";");
                check.due("nowhere", x.washed(0), 0);
                x.write(0, 0);
                check.due(n + " to write, held " + b, x.washed(0), n + b + 1);
                x.hour(n);
                check.due("done, held " + b, x.washed(0), b + 1);
                x.hour(b);
                check.due("the last hour", x.washed(0), 1);
                x.hour(1);
                check.due("gone", x.washed(0), 0);
            }
        }
        SandTreaty y = Check.on("t0,0,0,5;c5;k6 9 1 1;");
        for (int h = 0; h < 3; h++) {
            y.write(0, 0);
            check.due("washed at 3 from " + h, y.washed(0), 4 - h);
            y.hour(1);
        }
        check.due("wet this hour", y.washed(0), 1);
        y.rub(0);
        check.due("rubbed", y.washed(0), 0);
        int[] unknown = {-1, 1, LOWEST, HIGHEST};
        for (int k : unknown) {
            check.due("clause " + k, y.washed(k), UNKNOWN);
        }
    }

    // ---- promise 16

    private void planSets() {
        check.sentence("PLAN for a SET of CLAUSES (3 at most)");
        SandTreaty x = Check.on("t0;" + "c1;".repeat(9) + "k1 9 1 1;".repeat(6));
        for (int set = 0; set < 64; set++) {
            int size = Integer.bitCount(set);
            boolean within = size >= 1 && size <= 3;
            check.due("set " + set, x.plan(set, 1, NONE), within ? size : OUTSIDE);
            check.due("set " + set + ", place 0", x.plan(set, 1, 0), within ? Integer.numberOfTrailingZeros(set) : OUTSIDE);
        }
        check.sentence("UNKNOWN (a CELL, CLAUSE, IMAGE that there is not; bits of such)");
        for (int count = 0; count <= 6; count++) {
            SandTreaty y = Check.on("t0;c1;" + "k1 9 1 1;".repeat(count));
            for (int bit = 0; bit < 32; bit++) {
                check.due("bit " + bit + " of " + count, y.plan(1 << bit, 1, NONE), bit < count ? 1 : UNKNOWN);
                check.due("bit " + bit + " of " + count + ", m 0", y.plan(1 << bit, 0, NONE), bit < count ? OUTSIDE : UNKNOWN);
                if (count > 0 && bit >= count) {
                    check.due("bits 0, " + bit + " of " + count, y.plan(1 | 1 << bit, 1, NONE), UNKNOWN);
                    check.due("bargain " + bit + " of " + count, y.bargain(1 | 1 << bit, 1, 1, 2), UNKNOWN);
                }
                check.due("bargain " + bit + " of " + count, y.bargain(1 << bit, 1, 1, 2), bit < count ? 0 : UNKNOWN);
            }
            check.due("all bits", y.plan(-1, 1, NONE), UNKNOWN);
            check.due("all bits", y.bargain(-1, 1, 1, 0), UNKNOWN);
            check.due("highest", y.plan(HIGHEST, 1, NONE), UNKNOWN);
            check.due("highest", y.bargain(HIGHEST, 1, 1, 0), UNKNOWN);
            check.due("none of " + count, y.plan(0, 1, NONE), OUTSIDE);
        }
    }

    private void planHours() {
        check.sentence("to be IN FORCE all together for m HOURS (1 .. 12) one behind the other");
        SandTreaty x = Check.on("t0;w11;c1;k2 9 1 1;");
        int[] outside = {0, -1, 13, 14, LOWEST, HIGHEST};
        for (int m : outside) {
            check.due("m " + m, x.plan(1, m, NONE), OUTSIDE);
            check.due("m " + m + ", place 0", x.plan(1, m, 0), OUTSIDE);
        }
        for (int b = 1; b <= 30; b++) {
            SandTreaty y = Check.on("t0;w" + b + ";c1;k2 9 1 1;");
            for (int m = 1; m <= 12; m++) {
                check.due("m " + m + ", held " + b, y.plan(1, m, NONE), m <= b + 1 ? m + 1 : NONE);
                check.due("m " + m + ", held " + b + ", place 0", y.plan(1, m, 0), m <= b + 1 ? 0 : NONE);
            }
        }
        for (int bare = 1; bare <= 11; bare++) {
            String text = "t5" + ",0".repeat(bare) + ";c5;k1 9 1 1;";
            SandTreaty y = Check.on(text);
            for (int m = 1; m <= 12; m++) {
                check.due("m " + m + " in " + bare + " bare hours", y.plan(1, m, NONE), m <= bare ? m + 1 : NONE);
            }
        }
    }

    /** As no tide comes later than in 12 hours, no plan needs all of the 40: 29 are the most. */
    private void longestPlan() {
        check.sentence("looked at behind each of 40 HOURS");
        SandTreaty x = Check.on("t0;w23;c1;c1;c1;k6 9 1 1;k6 9 1 1;k6 9 1 1;");
        check.due("three of six hours for twelve", x.plan(7, 12, NONE), 29);
        check.due("first", x.plan(7, 12, 0), 0);
        check.due("second", x.plan(7, 12, 1), 11);
        check.due("third", x.plan(7, 12, 2), 22);
        SandTreaty y = Check.on("t0;w22;c1;c1;c1;k6 9 1 1;k6 9 1 1;k6 9 1 1;");
        check.due("the first one would be blown", y.plan(7, 12, NONE), NONE);
        check.due("for eleven", y.plan(7, 11, NONE), 28);
        SandTreaty z = Check.on("t0,0,0,0,0,0,5,5,5,5,5,5;w30;c9;c9;c5;k6 9 1 1;k6 9 1 1;k6 9 1 1;");
        z.hour(6);
        check.due("two in the high cells, the third waits six hours for the ebb", z.plan(7, 1, NONE), 24);
        check.due("first", z.plan(7, 1, 0), 0);
        check.due("second", z.plan(7, 1, 1), 11);
        check.due("third", z.plan(7, 1, 2), 22);
        check.due("washed in the very next hour", z.plan(7, 2, NONE), NONE);
    }

    private void planFreshSand() {
        check.sentence("all RUBBED out ahead, THE STICK free");
        Script s = new Script("text t0;w4;c1;c1;k1 9 1 1;k2 0 1 1;", "strand");
        String[] states = {"storm", "write 0 0", "write 1 1", "hour 3"};
        for (String state : states) {
            SandTreaty x = s.and(state).made();
            check.due("behind " + state, x.plan(3, 2, NONE), 4);
            check.due("behind " + state + ", first", x.plan(3, 2, 0), 0);
            check.due("behind " + state + ", second", x.plan(3, 2, 1), 11);
        }
        SandTreaty full = s.and("write 0 1", "hour 1", "write 1 0", "hour 1").made();
        check.due("both are there", full.plan(3, 2, NONE), 4);
        check.due("what it leans on is rubbed out", full.plan(2, 1, NONE), NONE);
        SandTreaty y = Check.on("t0;c1;c1;c1;k1 9 1 1;k1 0 1 1;k1 9 1 1;k1 1 1 1;");
        check.due("nobody of the set leans", y.plan(4, 1, NONE), 1);
        check.due("one leans on one of the set", y.plan(7, 1, NONE), 3);
        check.due("one leans on one that is not of the set", y.plan(12, 1, NONE), NONE);
        check.due("one leans on one that leans on one that is not of the set", y.plan(10, 1, NONE), NONE);
        check.due("all that it leans on is of the set", y.plan(11, 1, NONE), 3);
    }

    private void planFromNow() {
        check.sentence("TRIED from now");
        SandTreaty x = Check.on("t0,0,0,0,0,5;c5;c5;k2 9 1 1;k1 9 1 1;");
        int[] hours = new int[6];
        int[] second = new int[6];
        for (int h = 0; h < 6; h++) {
            hours[h] = x.plan(3, 1, NONE);
            second[h] = x.plan(3, 1, 1);
            x.hour(1);
        }
        check.due("at hour 0", hours[0], 3);
        check.due("at hour 2", hours[2], 3);
        check.due("at hour 3: the second one waits, the first one is washed", hours[3], NONE);
        check.due("at hour 5: one hour of flood first", hours[5], 4);
        for (int i = 1; i <= 8; i++) {
            for (int h = 0; h < 6; h++) {
                check.due("at hour " + x.told(5), x.plan(3, 1, NONE), hours[h]);
                check.due("second at hour " + x.told(5), x.plan(3, 1, 1), second[h]);
                x.hour(1);
            }
        }
        SandTreaty late = new Script("text t0;w23;c1;c1;c1;k6 9 1 1;k6 9 1 1;k6 9 1 1;", "strand", "301 * hour 30").made();
        check.due("hours", late.told(5), 9030);
        check.due("the longest one, at the latest hour", late.plan(7, 12, NONE), 29);
        check.due("its third place", late.plan(7, 12, 2), 22);
        check.due("lasts", late.lasts(0, 0), 24);
        late.write(0, 2);
        check.due("washed", late.washed(0), 30);
        check.due("crossing", late.crossing(0), 6);
    }

    private void planWaits() {
        check.sentence("if its CELL is not WET that HOUR and free (none is WRITTEN again)");
        SandTreaty x = Check.on("t0,9,0,0;c5;k2 9 1 1;");
        check.due("begun now, washed, not again", x.plan(1, 1, NONE), NONE);
        x.hour(1);
        check.due("waits one hour", x.plan(1, 1, NONE), 3);
        x.hour(1);
        check.due("at once", x.plan(1, 1, NONE), 2);
        check.due("for three hours of three bare ones", x.plan(1, 3, NONE), NONE);
        check.due("for two", x.plan(1, 2, NONE), 3);
        SandTreaty y = Check.on("t5;c5;k1 9 1 1;");
        check.due("always wet", y.plan(1, 1, NONE), NONE);
        check.due("no cell", Check.on("t5;k1 9 1 1;").plan(1, 1, NONE), NONE);
        check.due("one cell for two", Check.on("t5;c9;k1 9 1 1;k1 9 1 1;").plan(3, 1, NONE), NONE);
        check.due("two cells for two", Check.on("t5;c9;c9;k1 9 1 1;k1 9 1 1;").plan(3, 1, NONE), 2);
        check.due("two cells for three", Check.on("t5;c9;c9;k1 9 1 1;k1 9 1 1;k1 9 1 1;").plan(7, 1, NONE), NONE);
    }

    private void planTies() {
        check.sentence("of like ones the first (CLAUSE by CLAUSE in the order: the lesser CLAUSE, the lesser CELL)");
        SandTreaty x = Check.on("t0;" + "c1;".repeat(9) + "k2 9 1 1;".repeat(6));
        int[] want = {3, 14, 25};
        for (int i = 0; i < 3; i++) {
            check.due("place " + i, x.plan(56, 4, i), want[i]);
        }
        // the last cell, the last clauses: the greatest answer
        SandTreaty y = Check.on("t5;" + "c5;".repeat(8) + "c6;" + "k1 9 1 1;".repeat(6));
        check.due("the last clause in the last cell", y.plan(32, 1, 0), 85);
        check.due("two clauses in the last cell", y.plan(48, 1, NONE), NONE);
        // 1 must wait for the end of the flood in cell 1, so 0 in cell 1 comes with 1 in cell 0 in the same hour
        SandTreaty z = Check.on("t3,0,0,0;c5;c2;k1 9 1 1;k1 9 1 1;");
        check.due("soonest", z.plan(3, 1, NONE), 2);
        check.due("the lesser cell is bare at once", z.plan(3, 1, 0), 0);
        check.due("the other one when the flood has gone", z.plan(3, 1, 1), 11);
        // the longer clause must come first, though it is the greater one; then the shorter one waits for hour 4
        SandTreaty w = Check.on("t0,0,0,5;c5;c9;k1 9 1 1;k3 9 1 1;");
        check.due("the only order and cells", w.plan(3, 1, NONE), 5);
        check.due("the greater one first, in the high cell", w.plan(3, 1, 0), 11);
        check.due("the lesser one in the low cell", w.plan(3, 1, 1), 0);
    }

    private void planPlaces() {
        check.sentence("i = NONE in how many HOURS, else the CLAUSE of the i-th place and 10 times its CELL; NONE");
        SandTreaty x = Check.on("t0;w1;c1;c1;c1;k1 9 1 1;k1 9 1 1;k1 9 1 1;");
        int[][] places = {{0, NONE, NONE}, {0, 11, NONE}, {0, 11, 22}};
        int[] sets = {1, 3, 7};
        int[] none = {-2, -3, 3, 4, 5, 100, LOWEST, HIGHEST};
        for (int s = 0; s < 3; s++) {
            for (int i = 0; i < 3; i++) {
                boolean there = s < 2;
                check.due("set " + sets[s] + ", place " + i, x.plan(sets[s], 1, i), there ? places[s][i] : NONE);
            }
            for (int i : none) {
                check.due("set " + sets[s] + ", place " + i, x.plan(sets[s], 1, i), NONE);
                check.due("no plan, place " + i, x.plan(sets[s], 9, i), NONE);
                check.due("m 0, place " + i, x.plan(sets[s], 0, i), OUTSIDE);
                check.due("bit 3, place " + i, x.plan(sets[s] | 8, 1, i), UNKNOWN);
            }
        }
        SandTreaty y = Check.on("t0;w2;c1;c1;c1;k1 9 1 1;k1 9 1 1;k1 9 1 1;");
        for (int i = 0; i < 3; i++) {
            check.due("three, place " + i, y.plan(7, 1, i), places[2][i]);
        }
    }

    // ---- promise 17

    private void turnsBounds() {
        check.sentence("n times (1 .. 6)");
        SandTreaty x = Check.on("t0;" + "k5 9 20 20;".repeat(6));
        int[] noTurns = {0, -1, 7, 8, LOWEST, HIGHEST};
        for (int n : noTurns) {
            check.due("n " + n, x.bargain(63, n, 30, 2), OUTSIDE);
        }
        for (int n = 1; n <= 6; n++) {
            check.due("n " + n, x.bargain(63, n, 30, 2), (1 << n) - 1);
            check.due("n " + n + ", the one", x.bargain(63, n, 30, 0), 100 + 10 * n);
            check.due("n " + n + ", the other one", x.bargain(63, n, 30, 1), 100 + 10 * n);
        }
        check.sentence("takes no more HOURS than are left of m (0 .. 30), or none");
        int[] noHours = {-1, -2, 31, 32, LOWEST, HIGHEST};
        for (int m : noHours) {
            check.due("m " + m, x.bargain(63, 6, m, 2), OUTSIDE);
        }
        for (int m = 0; m <= 30; m++) {
            check.due("m " + m, x.bargain(63, 6, m, 2), (1 << m / 5) - 1);
        }
        SandTreaty six = Check.on("t0;" + "k6 9 20 20;".repeat(6));
        check.due("36 hours do not fit", six.bargain(63, 6, 30, 2), 31);
        check.sentence("what = 0 the one, 1 the other one, 2 the SET");
        int[] noWhat = {-1, 3, 4, LOWEST, HIGHEST};
        for (int what : noWhat) {
            check.due("what " + what, x.bargain(63, 6, 30, what), OUTSIDE);
        }
    }

    private void turnsLike() {
        check.sentence("of like ones none ahead of CLAUSES, these rising");
        SandTreaty x = Check.on("t0;" + "k1 9 10 10;".repeat(6));
        for (int n = 1; n <= 6; n++) {
            check.due("worth nothing, n " + n, x.bargain(63, n, 30, 2), 0);
        }
        SandTreaty y = Check.on("t0;" + "k1 9 11 10;".repeat(6));
        for (int set = 1; set < 64; set++) {
            check.due("the least of " + set, y.bargain(set, 1, 30, 2), Integer.lowestOneBit(set));
        }
        SandTreaty z = Check.on("t0;k1 9 11 9;k1 9 12 9;k1 9 11 9;");
        check.due("the greatest worth", z.bargain(7, 1, 30, 2), 2);
        // the other one has nothing to win and leaves it
        check.due("none from the other one", z.bargain(7, 2, 30, 2), 2);
        check.due("the one again", z.bargain(7, 3, 30, 2), 3);
    }

    private void turnsWorth() {
        check.sentence("worth is as it is here, below 0, too");
        SandTreaty x = Check.on("t0;" + "k1 9 20 0;".repeat(6));
        check.due("three turns of the one", x.bargain(63, 6, 30, 2), 7);
        check.due("the one has", x.bargain(63, 6, 30, 0), 130);
        check.due("the other one has", x.bargain(63, 6, 30, 1), 70);
        SandTreaty y = Check.on("t0;" + "k1 9 0 20;".repeat(6));
        check.due("three turns of the other one", y.bargain(63, 6, 30, 2), 7);
        check.due("the one has", y.bargain(63, 6, 30, 0), 70);
        check.due("the other one has", y.bargain(63, 6, 30, 1), 130);
        check.due("the one alone takes none", y.bargain(63, 1, 30, 2), 0);
        check.due("both and 100", y.bargain(63, 1, 30, 0), 100);
        check.due("both and 100", y.bargain(63, 1, 30, 1), 100);
        SandTreaty most = Check.on("t0;" + "k1 9 20 20;".repeat(6));
        check.due("the most", most.bargain(63, 6, 6, 0), 160);
        check.due("the most", most.bargain(63, 6, 6, 1), 160);
        check.sentence("each wants most worth of all that is chosen (whoever chose it) to itself");
        // whatever is chosen now leaves one hour for the other one: the one takes the less good one that leaves none
        SandTreaty z = Check.on("t0;k2 9 12 10;k1 9 13 10;k1 9 0 11;");
        check.due("leaves no hour", z.bargain(7, 2, 2, 2), 1);
        check.due("with one turn", z.bargain(7, 1, 2, 2), 2);
        check.sentence("the shores choose by turns, the one first");
        SandTreaty w = Check.on("t0;k1 9 10 11;k1 9 11 10;");
        check.due("the one takes the greater, none is left to the other one", w.bargain(3, 1, 2, 2), 2);
        check.due("then the other one the lesser", w.bargain(3, 2, 2, 2), 3);
        check.due("no hour for the other one", w.bargain(3, 2, 1, 2), 2);
    }

    private void turnsOfNone() {
        check.sentence("a CLAUSE of a SET that nobody chose yet");
        SandTreaty none = new SandTreaty();
        check.due("no strand, the one", none.bargain(0, 6, 30, 0), 100);
        check.due("no strand, the other one", none.bargain(0, 6, 30, 1), 100);
        check.due("no strand, the set", none.bargain(0, 6, 30, 2), 0);
        SandTreaty x = Check.on("t0;k1 9 20 20;k1 9 20 20;");
        check.due("of none", x.bargain(0, 6, 30, 2), 0);
        check.due("one, once", x.bargain(2, 6, 30, 0), 110);
        check.due("one", x.bargain(2, 6, 30, 2), 2);
        check.due("two", x.bargain(3, 6, 30, 2), 3);
    }

    // ---- promises 18 to 20

    private void crossing() {
        check.sentence("CROSSING under a CLAUSE: in how many HOURS first (0 .. 99) no CELL is WET and it is IN FORCE; NONE");
        for (int bare = 0; bare < 12; bare++) {
            String tides = "t" + "5,".repeat(bare) + "0" + ",5".repeat(11 - bare) + ";";
            for (int b = 1; b <= 13; b++) {
                SandTreaty x = Check.on(tides + "w" + b + ";c5;c9;k1 9 1 1;");
                x.write(0, 1);
                int first = bare == 0 ? 12 : bare;
                check.due("bare at " + bare + ", held " + b, x.crossing(0), first <= b + 1 ? first : NONE);
                x.hour(1);
                check.due("from 1 on", x.crossing(0), first <= b + 1 ? first - 1 : NONE);
            }
        }
        check.due("nowhere", Check.on("t0;c5;k1 9 1 1;").crossing(0), NONE);
        SandTreaty wet = Check.on("t5;c5;c9;k1 9 1 1;");
        wet.write(0, 1);
        wet.hour(1);
        check.due("always wet", wet.crossing(0), NONE);
        SandTreaty late = Check.on("t0;c5;k6 9 1 1;");
        late.write(0, 0);
        check.due("when it is done", late.crossing(0), 6);
        late.hour(6);
        check.due("now", late.crossing(0), 0);
        int[] unknown = {-1, 1, LOWEST, HIGHEST};
        for (int k : unknown) {
            check.due("clause " + k, late.crossing(k), UNKNOWN);
        }
    }

    private void leaners() {
        check.sentence("LEANERS of a CLAUSE: all that LEAN on it, straight or by others (a SET)");
        SandTreaty chain = Check.on("t0;k1 9 1 1;k1 0 1 1;k1 1 1 1;k1 2 1 1;k1 3 1 1;k1 4 1 1;");
        SandTreaty fan = Check.on("t0;k1 9 1 1;k1 0 1 1;k1 0 1 1;k1 0 1 1;k1 0 1 1;k1 0 1 1;");
        SandTreaty none = Check.on("t0;" + "k1 9 1 1;".repeat(6));
        for (int k = 0; k < 6; k++) {
            check.due("chain " + k, chain.leaners(k), 63 & -(2 << k));
            check.due("fan " + k, fan.leaners(k), k == 0 ? 62 : 0);
            check.due("none " + k, none.leaners(k), 0);
        }
        int[] unknown = {-1, 6, 7, LOWEST, HIGHEST};
        for (int k : unknown) {
            check.due("clause " + k, chain.leaners(k), UNKNOWN);
        }
        check.due("no strand", new SandTreaty().leaners(0), UNKNOWN);
    }

    private void odds() {
        check.sentence("odds that there is none in n HOURS (0 .. 60), each by q of a hundred (0 .. 100)");
        SandTreaty x = new SandTreaty();
        int[] noHours = {-1, 61, LOWEST, HIGHEST};
        int[] noOdds = {-1, 101, LOWEST, HIGHEST};
        for (int n : noHours) {
            check.due("n " + n, x.storms(n, 0), OUTSIDE);
            check.due("n " + n, x.storms(n, 100), OUTSIDE);
        }
        for (int q : noOdds) {
            check.due("q " + q, x.storms(0, q), OUTSIDE);
            check.due("q " + q, x.storms(60, q), OUTSIDE);
        }
        for (int q = 0; q <= 100; q++) {
            check.due("no hours by " + q, x.storms(0, q), 1000000000);
            check.due("one hour by " + q, x.storms(1, q), (100 - q) * 10000000);
        }
        for (int n = 1; n <= 60; n++) {
            check.due(n + " by 0", x.storms(n, 0), 1000000000);
            check.due(n + " by 100", x.storms(n, 100), 0);
        }
        check.sentence("a BILLION times (100 less q) / 100 each (cut)");
        // 10^9 halved nine times is whole; then 976562.5 and on are cut each time
        check.due("nine halves", x.storms(9, 50), 1953125);
        check.due("ten halves", x.storms(10, 50), 976562);
        check.due("twenty nine halves", x.storms(29, 50), 1);
        check.due("thirty halves", x.storms(30, 50), 0);
        check.due("a hundredth, four times", x.storms(4, 99), 10);
        check.due("a hundredth, five times", x.storms(5, 99), 0);
    }

    private void all() {
        lasts();
        lastsLeaning();
        lastsWithTheStick();
        lastsRefused();
        washed();
        planSets();
        planHours();
        longestPlan();
        planFreshSand();
        planFromNow();
        planWaits();
        planTies();
        planPlaces();
        turnsBounds();
        turnsLike();
        turnsWorth();
        turnsOfNone();
        crossing();
        leaners();
        odds();
        check.end("TriedBoundsTest");
    }

    public static void main(String[] args) {
        new TriedBoundsTest().all();
    }
}
