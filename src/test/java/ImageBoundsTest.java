import java.math.BigInteger;

/** Draws, what is undone, images, promises 12, 13 and 27 to 29: each sentence that names a boundary has its own method. */
public final class ImageBoundsTest {
    private static final int NONE = SandTreaty.NONE;
    private static final int UNKNOWN = SandTreaty.UNKNOWN;
    private static final int OUTSIDE = SandTreaty.OUTSIDE;
    private static final int NOT = SandTreaty.NOT;
    private static final int LOWEST = Integer.MIN_VALUE;
    private static final int HIGHEST = Integer.MAX_VALUE;

    private static final String[] BUSY = {"text t0,0,0,5;w9;c5;c6;c7;k1 9 12 3;k2 0 4 20;k3 9 10 11;", "strand", "seed 31",
        "write 0 1", "hour 2", "write 1 0", "hour 1"};

    private final Check check = new Check();

    /** The seed behind one draw, by numbers that do not wrap. */
    private static int next(int seed) {
        return BigInteger.valueOf(seed).multiply(BigInteger.valueOf(1103515245)).add(BigInteger.valueOf(12345))
            .mod(BigInteger.ONE.shiftLeft(31)).intValueExact();
    }

    private static int next(int seed, int times) {
        int then = seed;
        for (int i = 0; i < times; i++) {
            then = next(then);
        }
        return then;
    }

    private static int drawn(int seed, int n) {
        return seed / 65536 % n;
    }

    // ---- promise 27

    private void seeds() {
        check.sentence("THE SEED becomes v (0 .. 2147483647): what it was. OUTSIDE");
        SandTreaty x = new SandTreaty();
        int[] within = {0, 1, 65535, 65536, HIGHEST - 1, HIGHEST, 0, HIGHEST};
        int was = 0;
        for (int v : within) {
            check.due("seed " + v, x.seed(v), was);
            was = v;
        }
        int[] outside = {-1, -2, -65536, LOWEST, LOWEST + 1};
        for (int v : outside) {
            check.due("seed " + v, x.seed(v), OUTSIDE);
            check.due("stays behind " + v, x.seed(HIGHEST), HIGHEST);
        }
        check.sentence("THE SEED (0 at first");
        check.due("at first", new SandTreaty().seed(7), 0);
        check.due("at first, with a strand", Check.on("t0;").seed(7), 0);
    }

    // ---- draws

    private void seedWraps() {
        check.sentence("each DRAW it becomes it times 1103515245 and 12345, left over by 2 to the 31");
        int[] from = {0, 1, 2, 12345, 65536, 1073741823, 1073741824, HIGHEST - 1, HIGHEST};
        for (int seed : from) {
            SandTreaty x = Check.on("t0;");
            x.seed(seed);
            for (int i = 1; i <= 60; i++) {
                x.drift(1);
                int now = x.seed(0);
                check.due("seed behind " + i + " draws from " + seed, now, next(seed, i));
                check.that("not below 0", now >= 0);
                x.seed(now);
            }
        }
    }

    private void howManyDraws() {
        check.sentence("if there are CLAUSES and CELLS, a DRAW of CLAUSES, of CELLS .. then (in any case) a DRAW of 16");
        for (int clauses = 0; clauses <= 6; clauses++) {
            for (int cells = 0; cells <= 9; cells += cells == 2 ? 6 : 1) {
                String text = "t0;" + "c5;".repeat(cells) + "k1 9 1 1;".repeat(clauses);
                int each = clauses > 0 && cells > 0 ? 3 : 1;
                for (int hours = 1; hours <= 30; hours += hours < 3 ? 1 : 9) {
                    SandTreaty x = Check.on(text);
                    x.seed(99);
                    x.drift(hours);
                    check.due(clauses + " clauses, " + cells + " cells, " + hours + " hours", x.seed(0), next(99, each * hours));
                }
            }
        }
        SandTreaty full = Check.on("t9;c5;k1 9 1 1;");
        full.drift(2);
        check.due("drawn, though it may not be written", full.seed(0), next(0, 6));
        SandTreaty hours = Check.on("t0;c5;k1 9 1 1;");
        hours.hour(30);
        hours.write(0, 0);
        hours.storm();
        check.due("nothing else draws", hours.seed(0), 0);
    }

    private void whatIsDrawn() {
        check.sentence("the DRAW of n is it / 65536, left over by n");
        for (int clauses = 1; clauses <= 6; clauses++) {
            for (int cells = 1; cells <= 9; cells++) {
                for (int seed = 0; seed < 40; seed++) {
                    SandTreaty x = Check.on("t0;" + "c5;".repeat(cells) + "k2 9 1 1;".repeat(clauses));
                    x.seed(seed * 53687091);
                    int first = next(seed * 53687091);
                    int second = next(first);
                    boolean storm = drawn(next(second), 16) == 0;
                    x.drift(1);
                    for (int k = 0; k < clauses; k++) {
                        boolean there = !storm && drawn(first, clauses) == k;
                        check.due("cell of " + k, x.clause(k, 4), there ? drawn(second, cells) : NONE);
                        check.due("written of " + k, x.clause(k, 5), there ? 1 : 0);
                    }
                }
            }
        }
    }

    /** The least seed whose third draw of 16 is this one. */
    private static int seedFor(int third) {
        for (int seed = 0; seed < 1000000; seed++) {
            if (drawn(next(seed, 3), 16) == third) {
                return seed;
            }
        }
        return NONE;
    }

    private void stormOnNought() {
        check.sentence("a DRAW of 16: on 0 a STORM; then the HOUR");
        for (int third = 0; third < 16; third++) {
            SandTreaty x = Check.on("t0;c5;k1 9 15 5;");
            x.seed(seedFor(third));
            check.due("in force by " + third, x.drift(1), third == 0 ? 0 : 1);
            check.due("written by " + third, x.clause(0, 5), third == 0 ? 0 : 1);
            check.due("peace by " + third, x.told(10), third == 0 ? 1000000 : 1000005);
            check.due("the hour by " + third, x.told(5), 1);
            check.due("one deed by " + third, x.told(14), 1);
        }
    }

    private void writtenIfItMayBe() {
        check.sentence("it is WRITTEN there, if it may be");
        int calm = seedFor(5);
        SandTreaty wet = Check.on("t9;c5;k1 9 1 1;");
        wet.seed(calm);
        wet.drift(1);
        check.due("wet", wet.clause(0, 4), NONE);
        SandTreaty busy = Check.on("t0;c5;k3 9 1 1;");
        busy.write(0, 0);
        busy.hour(1);
        busy.seed(calm);
        busy.drift(1);
        check.due("is there already: goes on", busy.clause(0, 5), 2);
        SandTreaty other = Check.on("t0;c5;c5;k6 9 1 1;k1 9 1 1;");
        other.write(0, 0);
        other.seed(calm);
        int before = other.told(14);
        other.drift(1);
        check.due("the stick is not free", other.clause(1, 4), NONE);
        check.due("one deed more", other.told(14), before + 1);
    }

    private void manyDrawnHours() {
        check.sentence("n HOURS: ahead of each .. then the HOUR");
        Script busy = new Script(BUSY);
        for (int n = 1; n <= 30; n++) {
            check.same(n + " drawn hours", busy.print("drift " + n), busy.print(n + " * drift 1"));
        }
    }

    // ---- what is undone

    private void undoneSince() {
        check.sentence("since the text or IMAGE");
        Script busy = new Script(BUSY);
        check.due("deeds", busy.made().told(14), 5);
        String[] clears = {"keep 0", "keep 1", "strand"};
        for (String call : clears) {
            check.due("behind " + call, busy.and(call).made().told(14), 0);
            check.due("undo behind " + call, busy.and(call).made().undo(1), NOT);
        }
        Script back = busy.and("keep 0", "hour 3", "goBack 0");
        check.due("behind goBack", back.made().told(14), 0);
        check.due("undo behind goBack", back.made().undo(1), NOT);
        check.due("a deed since", back.and("storm").made().undo(1), 3);
        check.due("not two", back.and("storm").made().undo(2), NOT);
        String[] leaves = {"keep 2", "keep -1", "goBack 0", "goBack 2", "text x", "seed 4", "see 0 0 true", "tear", "note 0 0"};
        for (String call : leaves) {
            check.due("behind " + call, busy.and(call).made().told(14), 5);
        }
        check.due("behind a fault", busy.and("text x", "strand").made().told(14), 5);
    }

    private void seedStays() {
        check.sentence("all of section 2 is as ahead of them; THE SEED stays");
        Script busy = new Script(BUSY);
        for (int n = 1; n <= 30; n++) {
            SandTreaty x = busy.and("drift " + n).made();
            check.due("undone", x.undo(n), 3);
            check.same("as ahead of " + n, Script.sand(x), Script.sand(busy.made()));
            check.due("the seed", x.seed(0), next(31, 3 * n));
            check.due("what was done ahead of it", x.told(14), Math.min(5, 30 - n));
        }
        SandTreaty y = busy.and("see 1 2 false", "note 2 1", "undo 5").made();
        check.due("what was seen stays", y.told(12), 1);
        check.due("the book stays", y.told(13), 1);
        check.due("hours", y.told(5), 0);
    }

    // ---- promises 28 and 29

    private void whichImages() {
        check.sentence("IMAGES 0, 1 keep all of section 2, THE SEED");
        int[] unknown = {-1, -2, 2, 3, LOWEST, HIGHEST};
        for (int i : unknown) {
            check.due("keep " + i, new SandTreaty().keep(i), UNKNOWN);
            check.due("goBack " + i, new SandTreaty().goBack(i), UNKNOWN);
            check.due("keep " + i, new Script(BUSY).made().keep(i), UNKNOWN);
            check.due("goBack " + i, new Script(BUSY).made().goBack(i), UNKNOWN);
            check.due("goBack " + i + ", both kept", new Script(BUSY).and("keep 0", "keep 1").made().goBack(i), UNKNOWN);
        }
        for (int i = 0; i < 2; i++) {
            Script busy = new Script(BUSY);
            check.due("keep " + i, busy.made().keep(i), 1);
            check.due("keep " + i + " again", busy.and("keep " + i).made().keep(i), 1);
            check.due("keep " + i + ", no strand", new SandTreaty().keep(i), 1);
            check.due("goBack " + i, busy.and("keep " + i).made().goBack(i), 1);
            Script kept = busy.and("keep " + i, "seed 7", "storm", "drift 9", "goBack " + i);
            check.same("image " + i, Script.sand(kept.made()), Script.sand(busy.made()));
            check.due("its seed", kept.made().seed(0), 31);
            check.due("the other one is not kept", kept.made().goBack(1 - i), NOT);
        }
    }

    private void bothImages() {
        check.sentence("What is so becomes IMAGE i");
        Script busy = new Script(BUSY);
        String first = Script.sand(busy.made());
        String second = Script.sand(busy.and("hour 2", "rub 0").made());
        String third = Script.sand(busy.and("hour 2", "rub 0", "storm", "hour 4").made());
        SandTreaty x = busy.and("keep 0", "hour 2", "rub 0", "keep 1", "storm", "hour 4").made();
        String[] turns = {first, second, first};
        for (int turn = 0; turn < 3; turn++) {
            check.due("back", x.goBack(turn % 2), 1);
            check.same("image " + turn % 2, Script.sand(x), turns[turn]);
            x.storm();
            x.hour(7);
        }
        SandTreaty y = busy.and("keep 0", "hour 2", "rub 0", "keep 1", "storm", "hour 4", "keep 0", "hour 1", "goBack 0").made();
        check.same("kept over", Script.sand(y), third);
        y.goBack(1);
        check.same("the other one stays", Script.sand(y), second);
    }

    private void notInImages() {
        check.sentence("IMAGES 0, 1 keep all of section 2, THE SEED");
        Script kept = new Script(BUSY).and("see 0 1 true", "note 0 0", "keep 0");
        SandTreaty x = kept.and("see 1 1 true", "2 * note 1 1", "text t1", "hour 1", "goBack 0").made();
        check.due("what was seen stays as it is", x.told(12), 2);
        check.due("the book stays as it is", x.told(13), 3);
        check.due("the text stays as it is", x.told(4), 2);
        check.due("torn stays torn", kept.and("tear", "goBack 0").made().told(12), 0);
    }

    private void notKept() {
        check.sentence("UNKNOWN, NOT: it was not kept");
        Script[] states = {new Script(), new Script("text t0;c5;k1 9 1 1;", "strand"), new Script(BUSY),
            new Script(BUSY).and("keep 0", "keep 1", "text t0;", "strand"), new Script(BUSY).and("keep 0", "keep 1", "strand"),
            new Script("keep 0", "keep 1", "text t0;", "strand"), new Script(BUSY).and("keep 2", "keep -1")};
        for (Script state : states) {
            check.due("image 0", state.made().goBack(0), NOT);
            check.due("image 1", state.made().goBack(1), NOT);
        }
        Script both = new Script(BUSY).and("keep 0", "hour 1", "keep 1");
        check.due("kept behind a fault", both.and("text x", "strand").made().goBack(0), 1);
        check.due("kept behind a fault", both.and("text x", "strand").made().goBack(1), 1);
        check.due("kept without a strand", new Script("keep 1").made().goBack(1), 1);
        check.due("only that one", new Script("keep 1").made().goBack(0), NOT);
    }

    private void all() {
        seeds();
        seedWraps();
        howManyDraws();
        whatIsDrawn();
        stormOnNought();
        writtenIfItMayBe();
        manyDrawnHours();
        undoneSince();
        seedStays();
        whichImages();
        bothImages();
        notInImages();
        notKept();
        check.end("ImageBoundsTest");
    }

    public static void main(String[] args) {
        new ImageBoundsTest().all();
    }
}
