/** Section 1 of the document and promises 2 to 4: each sentence that names a boundary has a method of its own. */
public final class TextBoundsTest {
    private static final int NONE = SandTreaty.NONE;
    private static final int OUTSIDE = SandTreaty.OUTSIDE;
    private static final int FULL = SandTreaty.FULL;

    /** All that a text can hold: 12 tides, the wind, 9 cells, 6 clauses; 134 letters. */
    private static final String WHOLE = "t0,1,2,3,4,5,6,7,8,9,18,19;w7;c0;c1;c2;c3;c4;c5;c6;c18;c19;"
        + "k1 9 0 20;k2 0 1 19;k3 1 2 18;k4 2 3 17;k5 3 4 16;k6 4 5 15;";
    private static final String WHOLE_TOLD = "12 7 9 6 1 -1 0 20;2 0 1 19;3 1 2 18;4 2 3 17;5 3 4 16;6 4 5 15;"
        + "c0c1c2c3c4c5c6c18c19";

    private final Check check = new Check();

    private void good(String text, int clauses) {
        SandTreaty x = new SandTreaty();
        Check.feed(x, text);
        check.due("strand of '" + text + "'", x.strand(), clauses);
        check.due("fault of '" + text + "'", x.fault(), NONE);
        check.due("letters behind '" + text + "'", x.told(4), 0);
    }

    private void tells(String text, String ground) {
        SandTreaty x = new SandTreaty();
        Check.feed(x, text);
        x.strand();
        check.same("what '" + text + "' tells", Script.ground(x), ground);
    }

    private void bad(String text, int kind, int at) {
        SandTreaty x = new SandTreaty();
        Check.feed(x, text);
        check.due("strand of '" + text + "'", x.strand(), -10 - kind);
        check.due("fault of '" + text + "'", x.fault(), at);
        check.due("letters behind '" + text + "'", x.told(4), 0);
        check.same("what '" + text + "' tells", Script.ground(x), "0 0 0 0 ");
    }

    // ---- promise 2

    private void letters() {
        check.sentence("A letter (0 .. 255) comes behind THE TEXT: how many it has. OUTSIDE");
        SandTreaty x = new SandTreaty();
        int[] outside = {-1, -2, 256, 257, 256 + 't', -256 + 't', Integer.MIN_VALUE, Integer.MAX_VALUE};
        for (int letter : outside) {
            check.due("feed " + letter, x.feed(letter), OUTSIDE);
            check.due("letters", x.told(4), 0);
        }
        for (int letter = 0; letter <= 255; letter++) {
            check.due("feed " + letter, new SandTreaty().feed(letter), 1);
        }
    }

    private void mostLetters() {
        check.sentence("told in a text (240 letters at most)");
        SandTreaty x = new SandTreaty();
        for (int i = 1; i <= 240; i++) {
            check.due("feed", x.feed(i <= WHOLE.length() ? WHOLE.charAt(i - 1) : ' '), i);
        }
        check.due("letters", x.told(4), 240);
        check.due("the 241st", x.feed(' '), FULL);
        check.due("the 241st again", x.feed('x'), FULL);
        check.due("0 as the 241st", x.feed(0), FULL);
        check.due("255 as the 241st", x.feed(255), FULL);
        check.due("-1 as the 241st", x.feed(-1), OUTSIDE);
        check.due("256 as the 241st", x.feed(256), OUTSIDE);
        check.due("letters", x.told(4), 240);
        check.due("the full text", x.strand(), 6);
        check.same("tells all", Script.ground(x), WHOLE_TOLD);
        check.due("letters then", x.told(4), 0);
        check.due("there is room again", x.feed('t'), 1);
    }

    private void lastLetter() {
        check.sentence("240 letters at most, letter by letter");
        String most = WHOLE.substring(0, WHOLE.length() - 1) + " ".repeat(240 - WHOLE.length());
        good(most + ";", 6);
        tells(most + ";", WHOLE_TOLD);
        bad(most, 1, 239);
        bad(most + " ", 1, 240);
        bad(most + "x", 1, 239);
        bad("t1;" + " ".repeat(236) + "x", 1, 239);
        bad(" ".repeat(239) + "x", 1, 239);
        bad(" ".repeat(239) + "t", 1, 240);
        bad("t1;" + " ".repeat(236) + "t", 3, 239);
        bad("t1;w" + " ".repeat(234) + "31", 2, 238);
        good(" ".repeat(237) + "t1;", 0);
    }

    // ---- the parts of a text

    private static String tides(int count) {
        StringBuilder s = new StringBuilder("t0");
        for (int i = 1; i < count; i++) {
            s.append(',').append(i);
        }
        return s.toString();
    }

    private void howManyTides() {
        check.sentence("TIDES: 1 to 12 numbers");
        bad("t;", 1, 1);
        bad("t,;", 1, 1);
        bad("t,1;", 1, 1);
        for (int count = 1; count <= 12; count++) {
            good(tides(count) + ";", 0);
            tells(tides(count) + ";", count + " 30 0 0 ");
            bad(tides(count) + (count < 12 ? ",;" : ";;"), 1, tides(count).length() + 1);
        }
        check.sentence("a thirteenth T: at its ','");
        int comma = tides(12).length();
        bad(tides(13) + ";", 1, comma);
        bad(tides(12) + ",", 1, comma);
        bad(tides(12) + ",;", 1, comma);
        bad(tides(12) + ",99;", 1, comma);
        bad(tides(12) + "  , 1;", 1, comma + 2);
    }

    private void howHighTides() {
        check.sentence("numbers 0 .. 19");
        for (int place = 0; place < 12; place++) {
            String ahead = "t" + "5,".repeat(place);
            String behind = ",5".repeat(11 - place) + ";";
            good(ahead + "0" + behind, 0);
            good(ahead + "19" + behind, 0);
            bad(ahead + "20" + behind, 2, ahead.length());
            bad(ahead + "100" + behind, 2, ahead.length());
            bad(ahead + "999" + behind, 2, ahead.length());
            bad(ahead + "-1" + behind, 1, ahead.length());
        }
        SandTreaty x = Check.on("t0,19;");
        check.due("tide 0", x.told(6), 0);
        x.hour(1);
        check.due("tide 19", x.told(6), 19);
    }

    private void tidesComeRound() {
        check.sentence("HOUR h has the one of h left over by how many");
        for (int count = 1; count <= 12; count++) {
            SandTreaty x = Check.on(tides(count) + ";");
            for (int hour = 0; hour <= 40; hour++) {
                check.due("tide of hour " + hour + " by " + count, x.told(6), hour % count);
                x.hour(1);
            }
        }
        SandTreaty late = Check.on(tides(7) + ";");
        for (int i = 1; i <= 301; i++) {
            late.hour(30);
            if (i % 2 == 1) {
                check.due("tide of hour " + i * 30, late.told(6), i * 30 % 7);
            }
        }
    }

    private void tidesFirstAndOnce() {
        check.sentence("first, once");
        bad("w5;t1;", 1, 0);
        bad("c5;t1;", 1, 0);
        bad(" k1 9 1 1;t1;", 1, 1);
        bad("t1;t1;", 3, 3);
        bad("t1;t", 3, 3);
        bad("t1;w1;c1;k1 9 1 1; t2;", 3, 19);
    }

    private void wind() {
        check.sentence("dry sand holds what is written B HOURS, 1 .. 30; 30 untold; once");
        bad("t1;w0;", 2, 4);
        bad("t1;w00;", 2, 4);
        bad("t1;w31;", 2, 4);
        bad("t1;w999;", 2, 4);
        bad("t1;w;", 1, 4);
        bad("t1;w1,2;", 1, 5);
        for (int b = 1; b <= 30; b++) {
            tells("t1;w" + b + ";", "1 " + b + " 0 0 ");
        }
        tells("t1;", "1 30 0 0 ");
        tells("t1;c4;k1 9 2 3;w8;", "1 8 1 1 1 -1 2 3;c4");
        bad("t1;w5;w5;", 3, 6);
        bad("t1;w30;c1;w30;", 3, 10);
        SandTreaty x = Check.on("t1;w5;");
        Check.feed(x, "t1;");
        x.strand();
        check.due("untold in the next text", x.told(1), 30);
    }

    private void cells() {
        check.sentence("9 CELLS at most: HEIGHT G 0 .. 19");
        for (int count = 0; count <= 9; count++) {
            tells("t1;" + "c5;".repeat(count), "1 30 " + count + " 0 " + "c5".repeat(count));
        }
        bad("t1;" + "c5;".repeat(10), 3, 30);
        bad("t1;" + "c5;".repeat(9) + "c", 3, 30);
        bad("t1;" + "c5;".repeat(9) + "c20;", 3, 30);
        good("t1;" + "c5;".repeat(9) + "w1;k1 9 1 1;", 1);
        for (int height = 0; height <= 19; height++) {
            tells("t1;c" + height + ";", "1 30 1 0 c" + height);
        }
        for (int place = 0; place < 9; place++) {
            bad("t1;" + "c5;".repeat(place) + "c20;", 2, 4 + 3 * place);
        }
        bad("t1;c100;", 2, 4);
        bad("t1;c;", 1, 4);
        bad("t1;c-1;", 1, 4);
        bad("t1;c1,2;", 1, 5);
    }

    // ---- clauses

    private void howManyClauses() {
        check.sentence("6 CLAUSES at most");
        for (int count = 0; count <= 6; count++) {
            good("t1;" + "k1 9 1 1;".repeat(count), count);
            tells("t1;" + "k1 9 1 1;".repeat(count), "1 30 0 " + count + " " + "1 -1 1 1;".repeat(count));
        }
        bad("t1;" + "k1 9 1 1;".repeat(7), 3, 57);
        bad("t1;" + "k1 9 1 1;".repeat(6) + "k", 3, 57);
        bad("t1;" + "k1 9 1 1;".repeat(6) + "k0 0 99 99;", 3, 57);
        good("t1;" + "k1 9 1 1;".repeat(6) + "w1;c1;", 6);
    }

    private void hoursToWrite() {
        check.sentence("N HOURS to write, 1 .. 6");
        bad("t1;k0 9 1 1;", 2, 4);
        for (int n = 1; n <= 6; n++) {
            tells("t1;k" + n + " 9 1 1;", "1 30 0 1 " + n + " -1 1 1;");
        }
        bad("t1;k7 9 1 1;", 2, 4);
        bad("t1;k10 9 1 1;", 2, 4);
        bad("t1;k;", 1, 4);
    }

    private void leaning() {
        check.sentence("LEANS on CLAUSE L told ahead, or 9: none");
        for (int told = 0; told < 6; told++) {
            String ahead = "t1;" + "k1 9 1 1;".repeat(told);
            for (int lean = 0; lean < told; lean++) {
                good(ahead + "k1 " + lean + " 1 1;", told + 1);
                tells(ahead + "k1 " + lean + " 1 1;",
                    "1 30 0 " + (told + 1) + " " + "1 -1 1 1;".repeat(told) + "1 " + lean + " 1 1;");
            }
            good(ahead + "k1 9 1 1;", told + 1);
            check.sentence("an L that is neither told yet nor 9 (at its first)");
            for (int lean = told; lean <= 999; lean += lean < 20 ? 1 : 97) {
                if (lean != 9) {
                    bad(ahead + "k1 " + lean + " 1 1;", 2, ahead.length() + 3);
                    bad(ahead + "k1 " + lean, 2, ahead.length() + 3);
                }
            }
            bad(ahead + "k1   0" + "08 1 1;", 2, ahead.length() + 5);
        }
        tells("t1;k1 009 1 1;k1 000 1 1;", "1 30 0 2 1 -1 1 1;1 0 1 1;");
    }

    private void worth() {
        check.sentence("worth A to the one shore, E to the other one, 0 .. 20: 10 more than they are");
        for (int a = 0; a <= 20; a++) {
            tells("t1;k1 9 " + a + " " + (20 - a) + ";", "1 30 0 1 1 -1 " + a + " " + (20 - a) + ";");
            SandTreaty x = Check.on("t1;c5;k1 9 " + a + " " + (20 - a) + ";");
            x.write(0, 0);
            x.hour(1);
            check.due("peace of the one by " + a, x.told(10), 1000000 + a - 10);
            check.due("peace of the other by " + (20 - a), x.told(11), 1000000 + 10 - a);
        }
        bad("t1;k1 9 21 0;", 2, 8);
        bad("t1;k1 9 0 21;", 2, 10);
        bad("t1;k1 9 100 0;", 2, 8);
        bad("t1;k1 9 0 999;", 2, 10);
        bad("t1;k1 9 21 21;", 2, 8);
        bad("t1;k1 9 1;", 1, 9);
        bad("t1;k1 9 1 1 1;", 1, 12);
    }

    // ---- letters, numbers, blanks

    private void figures() {
        check.sentence("NUMBERS have one to three figures");
        String[] most = {"t%s;", "t1,%s;", "t1;w%s;", "t1;c%s;", "t1;k%s 9 1 1;", "t1;k1 9 %s 1;", "t1;k1 9 1 %s;"};
        for (String form : most) {
            int clauses = form.indexOf('k') < 0 ? 0 : 1;
            int at = form.indexOf('%');
            good(form.replace("%s", "5"), clauses);
            good(form.replace("%s", "05"), clauses);
            good(form.replace("%s", "005"), clauses);
            check.sentence("2 a NUMBER of four figures or more, or out of its bounds");
            bad(form.replace("%s", "0005"), 2, at);
            bad(form.replace("%s", "00005"), 2, at);
            bad(form.replace("%s", "1000"), 2, at);
            // what 32 and 64 bits leave over of these would be within
            bad(form.replace("%s", "4294967301"), 2, at);
            bad(form.replace("%s", "18446744073709551621"), 2, at);
            bad(form.replace("%s", "0".repeat(200) + "5"), 2, at);
        }
        good("t1;k1 009 1 1;", 1);
        bad("t1;k1 0009 1 1;", 2, 6);
    }

    private void words() {
        check.sentence("a word is one letter");
        bad("tt1;", 1, 1);
        bad("t1;ww1;", 1, 4);
        bad("t1;cc1;", 1, 4);
        bad("t1;kk1 9 1 1;", 1, 4);
        bad("t1;cw1;", 1, 4);
    }

    private void blanks() {
        check.sentence("blanks (32) may stand anywhere but within NUMBERS");
        String text = "t10,2;w12;c13;k1 9 14 15;k2 0 16 17;";
        String told = "2 12 1 2 1 -1 14 15;2 0 16 17;c13";
        for (int i = 0; i <= text.length(); i++) {
            boolean within = i > 0 && i < text.length() && isFigure(text.charAt(i - 1)) && isFigure(text.charAt(i));
            String parted = text.substring(0, i) + "  " + text.substring(i);
            if (within) {
                SandTreaty x = new SandTreaty();
                Check.feed(x, parted);
                check.that("'" + parted + "' has a fault", x.strand() < 0);
            } else {
                tells(parted, told);
            }
        }
        bad("t1 0;", 1, 3);
        bad("t1;w1 2;", 1, 6);
        bad("t1;k1 9 1 4 15;", 1, 12);
        int[] others = {0, 9, 10, 12, 13, 31, 33, 127, 128, 133, 160, 255};
        for (int letter : others) {
            bad("t1;" + (char) letter, 1, 3);
            bad("t1" + (char) letter + ";", 1, 2);
            bad("" + (char) letter, 1, 0);
        }
    }

    private static boolean isFigure(char letter) {
        return letter >= '0' && letter <= '9';
    }

    private void sideBySide() {
        check.sentence("two NUMBERS side by side need one");
        bad("t1;k19 12 9;", 2, 4);
        bad("t1;k1 912 9;", 2, 6);
        bad("t1;k1 9 129;", 2, 8);
        bad("t1;k1 9 12;", 1, 10);
        good("t1;k 1 9 12 9 ;", 1);
        good("t1;k1   9 12   9;", 1);
    }

    // ---- faults

    private void firstFault() {
        check.sentence("FAULTS, at the first letter that has one");
        bad("t20;x", 2, 1);
        bad("t1;x;w31;", 1, 3);
        bad("t1;w31;x", 2, 4);
        bad("t1;w31x", 2, 4);
        bad("t1;t20;", 3, 3);
        bad("t1;k7 8 21 21", 2, 4);
        bad("t1;k1 8 21 21", 2, 6);
        bad("t1;k1 9 x 99;", 1, 8);
        bad("xt20;", 1, 0);
    }

    private void endOfText() {
        check.sentence("(the end at the text's length)");
        String text = "t10, 12;w 3 ;c14;k5 9 16 7; c1;";
        for (int i = 1; i < text.length(); i++) {
            String part = text.substring(0, i);
            String plain = part.replace(" ", "");
            if (plain.endsWith(";")) {
                good(part, part.indexOf('k') < 0 ? 0 : 1);
            } else {
                bad(part, 1, i);
            }
        }
    }

    private void leastFault() {
        check.sentence("of these the least");
        bad("t1t2;", 1, 2);
        bad("t1,t2;", 1, 3);
        bad("t1;w1w2;", 1, 5);
        bad("t1;w1;ct", 1, 7);
        bad("t1;9999;", 1, 3);
        bad("t1 9999;", 1, 3);
        bad("9999", 1, 0);
        bad("t1;" + "c5;".repeat(8) + "c5c5;", 1, 29);
        bad("t1;" + "k1 9 1 1;".repeat(5) + "k1 9 1 1k", 1, 56);
    }

    private void cannotStand() {
        check.sentence("1 it cannot stand there (a letter that is no word, another word first than 't'");
        for (char letter = 0; letter <= 255; letter++) {
            first(letter);
            behindTides(letter);
            if (!isFigure(letter) && letter != ' ') {
                bad("t" + letter, 1, 1);
                bad("t1;w" + letter, 1, 4);
                bad("t1;c" + letter, 1, 4);
                bad("t1;k" + letter, 1, 4);
                bad("t1;k1 " + letter, 1, 6);
                bad("t1;k1 9 " + letter, 1, 8);
                bad("t1;k1 9 1 " + letter, 1, 10);
            }
            if (!isFigure(letter) && letter != ' ' && letter != ';') {
                bad("t1" + letter, 1, letter == ',' ? 3 : 2);
                bad("t1;w1" + letter, 1, 5);
                bad("t1;c1" + letter, 1, 5);
                bad("t1;k1 9 1 1" + letter, 1, 11);
            }
        }
    }

    private void first(char letter) {
        if (letter == ' ') {
            good("" + letter, 0);
        } else {
            bad("" + letter, 1, letter == 't' ? 1 : 0);
        }
    }

    private void behindTides(char letter) {
        if (letter == ' ') {
            good("t1;" + letter, 0);
        } else if (letter == 't') {
            bad("t1;" + letter, 3, 3);
        } else {
            bad("t1;" + letter, 1, "wck".indexOf(letter) < 0 ? 3 : 4);
        }
    }

    private void emptyText() {
        check.sentence("An empty text: no STRAND");
        good("", 0);
        good(" ", 0);
        good(" ".repeat(240), 0);
        SandTreaty x = Check.on(WHOLE);
        check.due("no letters behind a strand", x.strand(), 0);
        check.due("no fault", x.fault(), NONE);
        check.same("nothing is told", Script.ground(x), "0 0 0 0 ");
        check.due("no hour", x.hour(1), SandTreaty.NOT);
    }

    // ---- promises 3 and 4

    private void becomesTheStrand() {
        check.sentence("becomes THE STRAND (HOUR 0, all nowhere, no PEACE; nothing SEEN, no BOOK; IMAGES, what could be "
            + "undone are gone; THE SEED stays)");
        Script busy = new Script("text t0,5;c9;c9;k1 9 20 0;k3 0 1 2;", "strand", "write 0 0", "hour 1", "write 1 1", "hour 1",
            "see 0 1 true", "note 0 0", "keep 0", "keep 1", "hour 1", "seed 2147483647");
        String[] next = {WHOLE, "t0,5;c9;c9;k1 9 20 0;k3 0 1 2;", "t1;", "", "   "};
        for (String text : next) {
            String anew = new Script("seed 2147483647", "text " + text, "strand").print();
            check.same("'" + text + "' behind another strand", busy.print("text " + text, "strand"), anew);
            check.same("'" + text + "' twice", busy.print("text " + text, "strand", "text " + text, "strand"), anew);
            check.same("'" + text + "' behind a fault", busy.print("text x", "strand", "text " + text, "strand"), anew);
        }
    }

    private void allAsItWas() {
        check.sentence("-10 less the number of its FAULT (all is as it was)");
        Script busy = new Script("text t0,5;c9;c9;k1 9 20 0;k3 0 1 2;", "strand", "write 0 0", "hour 1", "write 1 1", "hour 1",
            "see 0 1 true", "note 0 0", "keep 0", "seed 77", "hour 1", "rub 0", "text   x", "strand");
        String[] faulty = {"  x", "t1t", "t1;20", "t1", "  ;", "t7", "tc"};
        int[] at = {2, 2, 3, 2, 2, 2, 1};
        for (int i = 0; i < faulty.length; i++) {
            SandTreaty x = busy.and("text " + faulty[i], "strand").made();
            check.due("letter of '" + faulty[i] + "'", x.fault(), at[i]);
            if (at[i] == 2) {
                check.same("behind '" + faulty[i] + "'", busy.print("text " + faulty[i], "strand"), busy.print());
            }
        }
        check.same("behind parts of a whole strand", busy.print("text t1;c1;k1 9 1 1", "strand", "text   x", "strand"),
            busy.print());
    }

    private void letterOfTheFault() {
        check.sentence("The letter of the FAULT of the latest strand(); NONE");
        SandTreaty x = new SandTreaty();
        check.due("no strand() yet", x.fault(), NONE);
        Check.feed(x, "t1;x");
        check.due("not read yet", x.fault(), NONE);
        x.strand();
        check.due("at 3", x.fault(), 3);
        check.due("asked again", x.fault(), 3);
        Check.feed(x, "t1;");
        check.due("the next one is not read yet", x.fault(), 3);
        x.strand();
        check.due("none", x.fault(), NONE);
        Check.feed(x, "x");
        x.strand();
        check.due("at 0", x.fault(), 0);
        x.strand();
        check.due("none in an empty text", x.fault(), NONE);
    }

    private void all() {
        letters();
        mostLetters();
        lastLetter();
        howManyTides();
        howHighTides();
        tidesComeRound();
        tidesFirstAndOnce();
        wind();
        cells();
        howManyClauses();
        hoursToWrite();
        leaning();
        worth();
        figures();
        words();
        blanks();
        sideBySide();
        firstFault();
        endOfText();
        leastFault();
        cannotStand();
        emptyText();
        becomesTheStrand();
        allAsItWas();
        letterOfTheFault();
        check.end("TextBoundsTest");
    }

    public static void main(String[] args) {
        new TextBoundsTest().all();
    }
}
