import java.util.Random;

/** Random runs of calls, each answered by the class and by NaiveTreaty. */
public final class AgainstNaiveTest {
    private static final int RUNS = 12000;
    /** What an object answers behind so many calls is free. */
    private static final int MOST_CALLS = 512;
    private static final int CALLS_TO_COMPARE = 144;

    private final Check check = new Check();
    private final Random random;
    private SandTreaty treaty;
    private NaiveTreaty naive;
    private String log = "";
    private int calls;

    private AgainstNaiveTest(long seed) {
        random = new Random(seed);
    }

    private int to(int most) {
        return random.nextInt(most + 1);
    }

    /** Mostly within low .. high, now and then a little or far outside. */
    private int near(int low, int high) {
        int kind = to(24);
        if (kind == 0) {
            return low - 1;
        }
        if (kind == 1) {
            return high + 1;
        }
        if (kind == 2) {
            return to(3) == 0 ? Integer.MIN_VALUE : to(1) == 0 ? Integer.MAX_VALUE : random.nextInt();
        }
        return low + to(high - low);
    }

    private String text() {
        if (to(30) == 0) {
            return " ".repeat(to(3));
        }
        StringBuilder s = new StringBuilder("t");
        int top = 4 + to(15);
        int tides = 1 + (to(30) == 0 ? 12 : to(11));
        for (int i = 0; i < tides; i++) {
            s.append(i == 0 ? "" : ",").append(to(3) == 0 ? to(top) : to(top / 2));
        }
        s.append(';');
        int cells = to(6) == 0 ? to(10) : 2 + to(4);
        int clauses = to(6) == 0 ? to(7) : 1 + to(5);
        boolean wind = to(3) != 0;
        int told = 0;
        while (cells > 0 || clauses > 0 || wind) {
            int kind = to(2);
            if (kind == 0 && cells > 0) {
                s.append('c').append(to(1) == 0 ? to(19) : Math.min(19, top / 2 + to(top / 2 + 2))).append(';');
                cells--;
            } else if (kind == 1 && clauses > 0) {
                int lean = told > 0 && to(1) == 0 ? to(told - 1) : 9;
                s.append('k').append(1 + (to(1) == 0 ? 0 : to(5))).append(' ').append(lean);
                s.append(' ').append(to(20)).append(' ').append(to(20)).append(';');
                told++;
                clauses--;
            } else if (kind == 2 && wind) {
                s.append('w').append(1 + to(29)).append(';');
                wind = false;
            }
        }
        int changes = to(4) == 0 ? 1 + to(2) : 0;
        for (int i = 0; i < changes; i++) {
            change(s);
        }
        return s.toString();
    }

    private void change(StringBuilder s) {
        String signs = "0123456789 ,;twckx$  ";
        int at = to(s.length());
        char sign = to(40) == 0 ? (char) to(255) : signs.charAt(to(signs.length() - 1));
        int kind = to(3);
        if (kind == 0 && at < s.length()) {
            s.setCharAt(at, sign);
        } else if (kind == 1 && at < s.length()) {
            s.deleteCharAt(at);
        } else if (kind == 2) {
            s.insert(at, sign);
        } else if (to(2) == 0) {
            s.setLength(at);
        }
    }

    private void due(String call, int got, int want) {
        calls++;
        check.due(log + " " + call, got, want);
    }

    private void tellStrand() {
        String text = text();
        if (!hasRoomFor(text.length() + 3)) {
            return;
        }
        log = log + " '" + text + "'";
        for (int i = 0; i < text.length(); i++) {
            due("feed", treaty.feed(text.charAt(i)), naive.feed(text.charAt(i)));
        }
        due("told(4)", treaty.told(4), naive.told(4));
        due("strand()", treaty.strand(), naive.strand());
        due("fault()", treaty.fault(), naive.fault());
    }

    private void deed() {
        int k = near(0, 5);
        int c = near(0, 5);
        int n = to(3) == 0 ? near(1, 30) : near(1, 4);
        switch (to(13)) {
            case 0: case 1: case 2: case 3: case 4:
                log += " write(" + k + "," + c + ")";
                due("", treaty.write(k, c), naive.write(k, c));
                break;
            case 5: case 6: case 7: case 8:
                n = to(2) == 0 ? n : 1;
                log += " hour(" + n + ")";
                due("", treaty.hour(n), naive.hours(n, false));
                break;
            case 9:
                log += " drift(" + n + ")";
                due("", treaty.drift(n), naive.hours(n, true));
                break;
            case 10:
                log += " rub(" + k + ")";
                due("", treaty.rub(k), naive.rub(k));
                break;
            case 11:
                if (to(3) == 0) {
                    log += " storm()";
                    due("", treaty.storm(), naive.storm());
                }
                break;
            case 12:
                log += " undo(" + n + ")";
                due("", treaty.undo(n), naive.undo(n));
                break;
            default:
                imageDeed();
        }
    }

    private void imageDeed() {
        int i = near(0, 1);
        int v = near(0, Integer.MAX_VALUE - 1);
        switch (to(2)) {
            case 0:
                log += " keep(" + i + ")";
                due("", treaty.keep(i), naive.keep(i));
                break;
            case 1:
                log += " goBack(" + i + ")";
                due("", treaty.goBack(i), naive.goBack(i));
                break;
            default:
                log += " seed(" + v + ")";
                due("", treaty.seed(v), naive.seed(v));
        }
    }

    private void seenDeed() {
        int k = near(0, 5);
        int c = near(-1, 5);
        int h = to(2) == 0 ? near(0, 60) : near(0, 5);
        boolean is = to(2) == 0;
        switch (to(7)) {
            case 0: case 1: case 2:
                log += " see(" + k + "," + h + "," + is + ")";
                due("", treaty.see(k, h, is), naive.see(k, h, is));
                break;
            case 3: case 4: case 5: case 6:
                log += " note(" + k + "," + c + ")";
                due("", treaty.note(k, c), naive.note(k, c));
                break;
            default:
                if (to(2) == 0) {
                    log += " tear()";
                    due("", treaty.tear(), naive.tear());
                }
        }
    }

    private void ask() {
        int k = near(0, 5);
        int c = near(0, 5);
        int what = near(0, 2);
        int h = near(0, 60);
        int set = near(0, 63);
        int n = near(1, 6);
        int ebb = near(0, 30);
        switch (to(9)) {
            case 0: due("lasts " + k + "," + c, treaty.lasts(k, c), naive.lasts(k, c)); break;
            case 1: due("washed " + k, treaty.washed(k), naive.washed(k)); break;
            case 2: due("crossing " + k, treaty.crossing(k), naive.crossing(k)); break;
            case 3: due("leaners " + k, treaty.leaners(k), naive.leaners(k)); break;
            case 4: due("storms " + h + "," + k, treaty.storms(h, k), naive.storms(h, k)); break;
            case 5: due("agreed " + what, treaty.agreed(what), naive.agreed(what)); break;
            case 6: due("lookAt " + h, treaty.lookAt(h), naive.lookAt(h)); break;
            case 7: due("judge", treaty.judge(), naive.judge()); break;
            case 8:
                if (to(2) == 0) {
                    due("bargain " + set + "," + n + "," + ebb + "," + what,
                        treaty.bargain(set, n, ebb, what), naive.bargain(set, n, ebb, what));
                }
                break;
            default: askPlan();
        }
    }

    private void askPlan() {
        int set = near(0, 63);
        int m = to(2) == 0 ? near(1, 12) : near(1, 3);
        int i = near(-3, 4);
        if (to(1) == 0) {
            set &= 7;
        }
        // Three clauses in nine cells take the naive way long, so they are asked for less often.
        if (Integer.bitCount(set) < 3 || naive.cells() < 5 || to(9) == 0) {
            due("plan " + set + "," + m + "," + i, treaty.plan(set, m, i), naive.plan(set, m, i));
        }
    }

    private void compareAll() {
        for (int what = -1; what <= 15; what++) {
            due("told " + what, treaty.told(what), naive.told(what));
        }
        for (int k = -1; k <= 6; k++) {
            for (int what = -1; what <= 7; what++) {
                due("clause " + k + "," + what, treaty.clause(k, what), naive.clause(k, what));
            }
        }
        for (int c = -1; c <= 9; c++) {
            for (int what = -1; what <= 3; what++) {
                due("cell " + c + "," + what, treaty.cell(c, what), naive.cell(c, what));
            }
        }
    }

    /** Whether so many calls may still come, and all be compared behind them. */
    private boolean hasRoomFor(int more) {
        return calls + more + CALLS_TO_COMPARE <= MOST_CALLS;
    }

    private void run() {
        treaty = new SandTreaty();
        naive = new NaiveTreaty();
        log = "";
        calls = 0;
        if (to(9) != 0) {
            tellStrand();
        }
        while (hasRoomFor(1) && check.wrong() == 0) {
            int kind = to(30);
            if (kind == 0 && to(4) == 0) {
                tellStrand();
            } else if (kind < 14) {
                deed();
            } else if (kind < 18) {
                seenDeed();
            } else {
                ask();
            }
            if (to(99) == 0 && hasRoomFor(CALLS_TO_COMPARE)) {
                compareAll();
            }
        }
        compareAll();
    }

    public static void main(String[] args) {
        AgainstNaiveTest test = new AgainstNaiveTest(args.length > 0 ? Long.parseLong(args[0]) : 20261118L);
        int runs = args.length > 1 ? Integer.parseInt(args[1]) : RUNS;
        for (int i = 0; i < runs && test.check.wrong() == 0; i++) {
            test.run();
        }
        test.check.end("AgainstNaiveTest");
    }
}
