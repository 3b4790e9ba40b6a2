/** How an object is used ("What it is", "Terms"): 512 calls long, beside other objects, with refusals far from all answers. */
public final class UseTest {
    private static final int MOST_CALLS = 512;

    private static final String TEXT = "t0,7,3,12;w30;c5;c9;c13;c19;k1 9 12 3;k2 0 4 20;k6 1 10 11;";
    private static final String[] READY = {"write 0 3", "hour 1", "write 1 2", "hour 1", "see 0 2 true", "note 0 3", "keep 1",
        "hour 1", "feed 116"};
    private static final String[] QUESTIONS = {"fault", "told 5", "told 9", "told 14", "clause 1 5", "cell 3 1", "lasts 2 1",
        "washed 1", "plan 7 1 -1", "plan 7 1 2", "bargain 7 6 30 2", "crossing 0", "leaners 0", "storms 60 1", "agreed 2",
        "lookAt 60", "judge", "write 0 1", "rub 2", "hour 0", "drift 31", "undo 2", "goBack 0", "keep 2", "feed 256"};

    private final Check check = new Check();

    private static SandTreaty ready() {
        SandTreaty x = Check.on(TEXT);
        for (String call : READY) {
            Script.call(x, call);
        }
        return x;
    }

    private void askedToTheLast() {
        check.sentence("An object is used for at most 512 calls after it has been made");
        int made = TEXT.length() + 1 + READY.length;
        for (String question : QUESTIONS) {
            SandTreaty x = ready();
            int first = Script.call(x, question);
            for (int call = made + 2; call <= MOST_CALLS; call++) {
                check.due(question + " as call " + call, Script.call(x, question), first);
            }
        }
        for (String question : QUESTIONS) {
            SandTreaty x = ready();
            for (int call = made + 1; call < MOST_CALLS; call++) {
                x.lookAt(call % 61);
            }
            check.due(question + " as the last call", Script.call(x, question), Script.call(ready(), question));
        }
    }

    private void lettersToTheLast() {
        SandTreaty x = new SandTreaty();
        for (int call = 1; call <= MOST_CALLS; call++) {
            boolean full = call > 240;
            check.due("feed as call " + call, x.feed(call % 256), full ? SandTreaty.FULL : call);
        }
        SandTreaty y = new SandTreaty();
        for (int call = 4; call <= MOST_CALLS; call += 4) {
            Check.feed(y, "t7;");
            check.due("strand as call " + call, y.strand(), 0);
        }
    }

    /** Hours pass until no more may, and the calls go on behind that. */
    private void hoursToTheLast() {
        SandTreaty x = Check.on(TEXT);
        NaiveTreaty naive = new NaiveTreaty();
        for (int i = 0; i < TEXT.length(); i++) {
            naive.feed(TEXT.charAt(i));
        }
        naive.strand();
        int full = 0;
        for (int call = TEXT.length() + 2; call <= MOST_CALLS; call++) {
            int answer = 0;
            switch (call % 4) {
                case 0:
                    answer = x.hour(30);
                    check.due("hour as call " + call, answer, naive.hours(30, false));
                    break;
                case 1:
                    check.due("write as call " + call, x.write(call % 3, call % 5 % 4), naive.write(call % 3, call % 5 % 4));
                    break;
                default:
                    answer = x.drift(30);
                    check.due("drift as call " + call, answer, naive.hours(30, true));
            }
            full += answer == SandTreaty.FULL ? 1 : 0;
        }
        check.that("it was full at last", full > 0);
    }

    private void farBelow() {
        check.sentence("They are far below all that is counted: -1000000001 and on");
        String text = "t0;" + "c1;".repeat(6) + "k1 9 0 20;".repeat(6);
        SandTreaty x = Check.on(text);
        int calls = text.length() + 1;
        int peace = 0;
        while (calls + 17 <= MOST_CALLS) {
            for (int k = 0; k < 6; k++) {
                check.due("write", x.write(k, k), 1);
                x.hour(1);
                peace -= 10 * (k + 1);
            }
            // each stands 31 hours: five hours more for the last one than for the first one
            x.hour(30);
            peace -= 10 * (30 + 29 + 28 + 27 + 26 + 25);
            check.due("the lowest peace", x.told(10), 1000000 + peace);
            check.due("the highest peace", x.told(11), 1000000 - peace);
            x.storm();
            calls += 16;
        }
        check.that("it is counted, not refused", x.told(10) > 0 && peace < -30000);
    }

    private void sideBySide() {
        check.sentence("A new object: No STRAND");
        String[] one = {"text " + TEXT, "strand", "seed 3", "write 0 3", "drift 7", "keep 0", "see 0 1 true", "plan 7 1 -1",
            "drift 9", "told 9", "lasts 1 3", "undo 2", "note 1 2", "judge", "told 11", "goBack 0", "seed 0"};
        String[] other = {"told 3", "seed 9", "text t1,9;w2;c9;c10;k2 9 1 20;", "strand", "hour 2", "write 0 1", "hour 3",
            "see 0 5 false", "agreed 2", "plan 1 1 -1", "keep 0", "storm", "lookAt 1", "goBack 1", "tear", "told 10", "fault"};
        SandTreaty x = new SandTreaty();
        SandTreaty y = new SandTreaty();
        int[] first = new int[one.length];
        int[] second = new int[one.length];
        for (int i = 0; i < one.length; i++) {
            first[i] = Script.call(x, one[i]);
            second[i] = Script.call(y, other[i]);
        }
        SandTreaty alone = new SandTreaty();
        for (int i = 0; i < one.length; i++) {
            check.due(one[i] + " alone", Script.call(alone, one[i]), first[i]);
        }
        alone = new SandTreaty();
        for (int i = 0; i < one.length; i++) {
            check.due(other[i] + " alone", Script.call(alone, other[i]), second[i]);
        }
    }

    private void all() {
        askedToTheLast();
        lettersToTheLast();
        hoursToTheLast();
        farBelow();
        sideBySide();
        check.end("UseTest");
    }

    public static void main(String[] args) {
        new UseTest().all();
    }
}
