/**
 * The refusals of every call: each where it is due, the first of several in the document's order, and nothing changed by
 * it; and that what is asked or tried changes nothing.
 */
public final class RefusalsTest {
    private static final int UNKNOWN = SandTreaty.UNKNOWN;
    private static final int OUTSIDE = SandTreaty.OUTSIDE;
    private static final int NOT = SandTreaty.NOT;
    private static final int FULL = SandTreaty.FULL;

    private static final Script NONE_TOLD = new Script("seed 5");
    /** Clause 0 done in cell 1, clause 1 being written in cell 2, cell 0 wet; all that can be kept is kept. */
    private static final Script BUSY = new Script("text t0,5,5;w9;c5;c9;c9;c9;k1 9 12 3;k4 0 4 20;k2 1 10 11;", "strand", "seed 8",
        "write 0 1", "hour 1", "see 0 2 true", "note 0 1", "keep 0", "write 1 2", "hour 1", "text t1;");
    private static final Script LATE = new Script("text t0;c5;k1 9 12 3;", "strand", "300 * hour 30", "write 0 0", "hour 1");
    private static final Script CRAMMED = new Script("text t0;c5;k1 9 12 3;", "strand", "8 * see 0 0 true", "20 * note 0 -1",
        "239 * feed 32", "feed 120");

    private final Check check = new Check();

    /** Each of these answers this, and all that can be asked is as it was. */
    private void refused(Script state, int refusal, String... calls) {
        String before = state.print();
        for (String call : calls) {
            check.due(call, Script.call(state.made(), call), refusal);
            check.same("behind " + call, state.print(call), before);
        }
    }

    /** None of these is refused, and all that can be asked is as it was. */
    private void asked(Script state, String... calls) {
        String before = state.print();
        for (String call : calls) {
            check.that(call + " is answered", Script.call(state.made(), call) > UNKNOWN);
            check.same("behind " + call, state.print(call), before);
        }
    }

    private void numbers() {
        check.sentence("They are far below all that is counted: -1000000001 and on");
        check.due("NONE", SandTreaty.NONE, -1);
        check.due("UNKNOWN", UNKNOWN, -1000000001);
        check.due("OUTSIDE", OUTSIDE, -1000000002);
        check.due("NOT", NOT, -1000000003);
        check.due("FULL", FULL, -1000000004);
    }

    private void withoutStrand() {
        check.sentence("A new object: No STRAND");
        refused(NONE_TOLD, UNKNOWN, "clause 0 0", "cell 0 0", "write 0 0", "rub 0", "lasts 0 0", "washed 0", "plan 1 1 -1",
            "bargain 1 1 1 0", "crossing 0", "leaners 0", "see 0 0 true", "note 0 -1", "note 0 0", "keep 2", "goBack 2");
        refused(NONE_TOLD, OUTSIDE, "feed -1", "feed 256", "told -1", "told 15", "hour 0", "hour 31", "drift 0", "drift 31",
            "undo 0", "undo 31", "plan 0 1 -1", "bargain 0 0 1 0", "bargain 0 7 1 0", "bargain 0 1 -1 0", "bargain 0 1 31 0",
            "bargain 0 1 1 3", "storms -1 0", "storms 61 0", "storms 0 -1", "storms 0 101", "agreed -1", "agreed 3",
            "lookAt -1", "lookAt 61", "seed -1");
        refused(NONE_TOLD, NOT, "storm", "hour 1", "hour 30", "drift 1", "drift 30", "undo 1", "undo 30", "goBack 0", "goBack 1");
    }

    private void unknown() {
        check.sentence("UNKNOWN (a CELL, CLAUSE, IMAGE that there is not; bits of such)");
        refused(BUSY, UNKNOWN, "clause -1 0", "clause 3 0", "cell -1 0", "cell 4 0", "write -1 3", "write 3 3", "write 2 -1",
            "write 2 4", "rub -1", "rub 3", "lasts -1 3", "lasts 3 3", "lasts 2 -1", "lasts 2 4", "washed -1", "washed 3",
            "plan 8 1 -1", "plan 9 1 -1", "plan -8 1 -1", "bargain 8 1 1 0", "bargain 15 1 1 0", "bargain -1 1 1 0",
            "crossing -1", "crossing 3", "leaners -1", "leaners 3", "see -1 0 true", "see 3 0 true", "note -1 0", "note 3 0",
            "note 0 -2", "note 0 4", "keep -1", "keep 2", "goBack -1", "goBack 2");
    }

    private void outside() {
        check.sentence("OUTSIDE (another number out of its bounds)");
        refused(BUSY, OUTSIDE, "feed -1", "feed 256", "told -1", "told 15", "clause 0 -1", "clause 0 7", "cell 0 -1", "cell 0 3",
            "hour 0", "hour 31", "drift 0", "drift 31", "undo 0", "undo 31", "plan 0 1 -1", "plan 1 0 -1", "plan 1 13 -1",
            "bargain 1 0 1 0", "bargain 1 7 1 0", "bargain 1 1 -1 0", "bargain 1 1 31 0", "bargain 1 1 1 -1",
            "bargain 1 1 1 3", "storms -1 0", "storms 61 0", "storms 0 -1", "storms 0 101", "see 0 -1 true", "see 0 61 true",
            "agreed -1", "agreed 3", "lookAt -1", "lookAt 61", "seed -1");
        Script four = new Script("text t0;c5;k1 9 1 1;k1 9 1 1;k1 9 1 1;k1 9 1 1;", "strand");
        refused(four, OUTSIDE, "plan 15 1 -1", "plan 15 1 0", "plan 15 1 9");
    }

    private void notNow() {
        check.sentence("NOT (not now, as told)");
        refused(BUSY, NOT, "write 0 3", "write 1 3", "write 2 3", "write 2 0", "write 2 1", "write 2 2", "rub 2", "undo 3",
            "undo 30", "lasts 0 3", "lasts 1 3", "lasts 2 0", "lasts 2 1", "lasts 2 2", "goBack 1");
    }

    private void full() {
        check.sentence("FULL");
        refused(LATE, FULL, "hour 1", "hour 30", "drift 1", "drift 30");
        refused(CRAMMED, FULL, "feed 0", "feed 32", "feed 255", "see 0 0 false", "see 0 60 true", "note 0 0", "note 0 -1");
    }

    private void firstOfSeveral() {
        check.sentence("REFUSALS, of several the first in this order");
        // unknown ahead of what is outside, not now, full
        refused(BUSY, UNKNOWN, "clause 3 7", "clause -1 -1", "cell 4 3", "cell -1 -1", "write 3 0", "write 0 4", "write 1 -1",
            "lasts 3 1", "lasts 0 4", "plan 8 0 -1", "plan 15 13 7", "plan -1 0 -2", "bargain 8 0 -1 3", "bargain 8 7 31 -1",
            "see 3 61 true", "see -1 -1 false");
        refused(CRAMMED, UNKNOWN, "see 1 0 true", "see 1 61 true", "note 1 0", "note 0 1", "note 1 1", "note 0 -2");
        // outside ahead of what is not now, full
        refused(BUSY, OUTSIDE, "undo 31", "undo 0");
        refused(NONE_TOLD, OUTSIDE, "hour 0", "hour 31", "drift 0", "drift 31", "undo 31");
        refused(LATE, OUTSIDE, "hour 0", "hour 31", "drift 0", "drift 31");
        refused(CRAMMED, OUTSIDE, "feed -1", "feed 256", "see 0 61 false", "see 0 -1 false");
    }

    private void faultsChangeNothing() {
        check.sentence("with a FAULT .. all is as it was");
        // the fault of the latest text stands at 1 here and there, so that nothing at all differs
        Script faulty = BUSY.and("text x", "strand", "text  x", "strand");
        String before = faulty.print();
        String[] texts = {" x", "tx", "t20;", "c1;t1;", " 1", "t,1;"};
        int[] at = {1, 1, 1, 0, 1, 1};
        for (int i = 0; i < texts.length; i++) {
            SandTreaty x = faulty.and("text " + texts[i], "strand").made();
            check.due("letter of '" + texts[i] + "'", x.fault(), at[i]);
            if (at[i] == 1) {
                check.same("behind '" + texts[i] + "'", faulty.print("text " + texts[i], "strand"), before);
            }
        }
    }

    private void triedChangesNothing() {
        check.sentence("TRIED from now; nothing changes by it");
        asked(BUSY, "lasts 2 3", "washed 0", "washed 1", "washed 2", "plan 1 1 -1", "plan 3 12 0", "plan 7 1 2", "plan 7 1 -5",
            "bargain 7 6 30 0", "bargain 0 1 0 1", "bargain 5 2 4 2", "crossing 0", "crossing 1", "crossing 2", "leaners 0",
            "leaners 2", "storms 60 1", "storms 0 100", "agreed 0", "agreed 1", "agreed 2", "lookAt 0", "lookAt 1", "lookAt 60",
            "judge", "fault", "told 0", "told 9", "told 14", "clause 0 6", "cell 3 2");
        asked(NONE_TOLD, "bargain 0 6 30 2", "storms 60 99", "agreed 0", "agreed 1", "agreed 2", "lookAt 60", "judge", "fault",
            "told 6", "told 14");
        asked(LATE, "washed 0", "plan 1 12 -1", "plan 1 12 0", "crossing 0", "agreed 2", "lookAt 5");
        asked(CRAMMED, "lasts 0 0", "plan 1 1 0", "agreed 2", "lookAt 1", "judge");
    }

    private void all() {
        numbers();
        withoutStrand();
        unknown();
        outside();
        notNow();
        full();
        firstOfSeveral();
        faultsChangeNothing();
        triedChangesNothing();
        check.end("RefusalsTest");
    }

    public static void main(String[] args) {
        new RefusalsTest().all();
    }
}
