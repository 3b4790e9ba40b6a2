/**
 * Calls told as words ("write 0 1", "see 2 60 true"), so that a state can be made again and again, and prints of all
 * that an object lets be asked, so that two objects can be compared. No object here comes near its 512th call.
 */
final class Script {
    private final String[] calls;

    Script(String... calls) {
        this.calls = calls;
    }

    Script and(String... more) {
        String[] all = new String[calls.length + more.length];
        System.arraycopy(calls, 0, all, 0, calls.length);
        System.arraycopy(more, 0, all, calls.length, more.length);
        return new Script(all);
    }

    SandTreaty made() {
        SandTreaty x = new SandTreaty();
        for (String call : calls) {
            call(x, call);
        }
        return x;
    }

    /** "text .." feeds what stands behind the blank; "20 * call" calls so often; all else is the call's own name. */
    static int call(SandTreaty x, String call) {
        if (call.startsWith("text ")) {
            Check.feed(x, call.substring(5));
            return x.told(4);
        }
        int star = call.indexOf(" * ");
        if (star > 0) {
            int last = 0;
            for (int i = 0; i < Integer.parseInt(call.substring(0, star)); i++) {
                last = call(x, call.substring(star + 3));
            }
            return last;
        }
        String[] words = call.split(" ");
        int a = words.length > 1 ? Integer.parseInt(words[1]) : 0;
        int b = words.length > 2 ? Integer.parseInt(words[2]) : 0;
        switch (words[0]) {
            case "feed": return x.feed(a);
            case "strand": return x.strand();
            case "fault": return x.fault();
            case "told": return x.told(a);
            case "clause": return x.clause(a, b);
            case "cell": return x.cell(a, b);
            case "write": return x.write(a, b);
            case "rub": return x.rub(a);
            case "storm": return x.storm();
            case "hour": return x.hour(a);
            case "drift": return x.drift(a);
            case "undo": return x.undo(a);
            case "lasts": return x.lasts(a, b);
            case "washed": return x.washed(a);
            case "plan": return x.plan(a, b, Integer.parseInt(words[3]));
            case "bargain": return x.bargain(a, b, Integer.parseInt(words[3]), Integer.parseInt(words[4]));
            case "crossing": return x.crossing(a);
            case "leaners": return x.leaners(a);
            case "storms": return x.storms(a, b);
            case "see": return x.see(a, b, Boolean.parseBoolean(words[3]));
            case "agreed": return x.agreed(a);
            case "lookAt": return x.lookAt(a);
            case "note": return x.note(a, b);
            case "judge": return x.judge();
            case "tear": return x.tear();
            case "seed": return x.seed(a);
            case "keep": return x.keep(a);
            case "goBack": return x.goBack(a);
            default: throw new IllegalStateException("no such call: " + call);
        }
    }

    /** Section 2: hours, what is where, the stick, the peace. */
    static String sand(SandTreaty x) {
        StringBuilder s = new StringBuilder();
        for (int what = 5; what <= 11; what++) {
            s.append(x.told(what)).append(' ');
        }
        for (int k = 0; k < x.told(3); k++) {
            s.append('k').append(x.clause(k, 4)).append(',').append(x.clause(k, 5)).append(',').append(x.clause(k, 6));
        }
        return s.toString();
    }

    /** All that was told in the text. */
    static String ground(SandTreaty x) {
        StringBuilder s = new StringBuilder();
        for (int what = 0; what <= 3; what++) {
            s.append(x.told(what)).append(' ');
        }
        for (int k = 0; k < x.told(3); k++) {
            for (int what = 0; what <= 3; what++) {
                s.append(x.clause(k, what)).append(what == 3 ? ';' : ' ');
            }
        }
        for (int c = 0; c < x.told(2); c++) {
            s.append('c').append(x.cell(c, 0));
        }
        return s.toString();
    }

    private static int seedOf(SandTreaty x) {
        int seed = x.seed(0);
        x.seed(seed);
        return seed;
    }

    private static void rest(SandTreaty x, StringBuilder s) {
        s.append(" text ").append(x.told(4)).append(" fault ").append(x.fault());
        s.append(" seen ").append(x.told(12)).append(" book ").append(x.told(13)).append(" undo ").append(x.told(14));
        s.append(" begins ").append(x.agreed(2)).append(" wrong ").append(x.judge()).append(" seed ").append(seedOf(x));
    }

    private void undone(StringBuilder s) {
        for (int n = 1; n <= 30; n++) {
            SandTreaty x = made();
            s.append("\nundone ").append(x.undo(n)).append(' ').append(sand(x));
        }
    }

    private static void imagesOf(SandTreaty x, StringBuilder s) {
        for (int i = 0; i < 2; i++) {
            s.append("\nimage ").append(x.goBack(i)).append(' ').append(sand(x)).append(" seed ").append(seedOf(x));
        }
    }

    /** What the book holds: which of its entries are wrong when all is nowhere, and how many it still takes. */
    private static void roomLeft(SandTreaty x, StringBuilder s) {
        x.storm();
        s.append("\nafter a storm ").append(x.judge());
        for (int i = 0; i < 21; i++) {
            s.append(' ').append(x.note(0, SandTreaty.NONE));
        }
        for (int i = 0; i < 9; i++) {
            s.append(' ').append(x.see(0, 0, true));
        }
    }

    private static void textRead(SandTreaty x, StringBuilder s) {
        s.append("\ntext ").append(x.strand()).append(' ').append(x.fault()).append(' ').append(ground(x));
    }

    /** Each part is asked of an object of its own, as asking for one changes the others. */
    String print(String... more) {
        Script all = and(more);
        StringBuilder s = new StringBuilder();
        SandTreaty x = all.made();
        s.append(ground(x)).append(sand(x));
        rest(x, s);
        all.undone(s);
        imagesOf(all.made(), s);
        roomLeft(all.made(), s);
        textRead(all.made(), s);
        return s.toString();
    }
}
