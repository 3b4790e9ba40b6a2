import java.util.ArrayList;
import java.util.Arrays;
import java.util.List;

/**
 * The document once more, by other means: hours are always passed one by one, every order and every cell is
 * tried, every game is played to its end. Slow, and meant to share no way of thinking with the class.
 */
final class NaiveTreaty {
    static final int NONE = -1, UNKNOWN = -1000000001, OUTSIDE = -1000000002, NOT = -1000000003, FULL = -1000000004;

    record Token(int at, char sign, String figures) {
        boolean isNumber() {
            return figures != null;
        }
    }

    record Clause(int takes, int lean, int one, int other) { }

    static final class Told {
        final List<Integer> tides = new ArrayList<>();
        final List<Integer> heights = new ArrayList<>();
        final List<Clause> clauses = new ArrayList<>();
        int wind = 30;
        boolean windTold = false;
    }

    /** One fault, thrown while a text is read. */
    static final class Fault extends RuntimeException {
        private static final long serialVersionUID = 1L;
        final int kind;
        final int at;

        Fault(int kind, int at) {
            this.kind = kind;
            this.at = at;
        }
    }

    static final class State {
        long one = 0;
        long other = 0;
        int hours = 0;
        int stick = NONE;
        int[] cell = new int[6];
        int[] written = new int[6];
        int[] dry = new int[6];

        State() {
            Arrays.fill(cell, NONE);
        }

        State copy() {
            State s = new State();
            s.one = one;
            s.other = other;
            s.hours = hours;
            s.stick = stick;
            s.cell = cell.clone();
            s.written = written.clone();
            s.dry = dry.clone();
            return s;
        }
    }

    final StringBuilder text = new StringBuilder();
    Told told = null;
    State now = new State();
    int faultAt = NONE;
    long seed = 0;
    final List<State> past = new ArrayList<>();
    final State[] images = new State[2];
    final long[] imageSeeds = new long[2];
    final List<int[]> seen = new ArrayList<>();
    final List<int[]> book = new ArrayList<>();

    // ---- the text

    static List<Token> tokens(String text) {
        List<Token> list = new ArrayList<>();
        int i = 0;
        while (i < text.length()) {
            char c = text.charAt(i);
            if (c == ' ') {
                i++;
            } else if (c >= '0' && c <= '9') {
                int from = i;
                while (i < text.length() && text.charAt(i) >= '0' && text.charAt(i) <= '9') {
                    i++;
                }
                list.add(new Token(from, '#', text.substring(from, i)));
            } else {
                list.add(new Token(i, c, null));
                i++;
            }
        }
        list.add(new Token(text.length(), '$', null));
        return list;
    }

    static int number(Token token, int least, int most) {
        if (!token.isNumber()) {
            throw new Fault(1, token.at());
        }
        if (token.figures().length() > 3) {
            throw new Fault(2, token.at());
        }
        int value = Integer.parseInt(token.figures());
        if (value < least || value > most) {
            throw new Fault(2, token.at());
        }
        return value;
    }

    static void sign(Token token, char sign, int end) {
        if (token.isNumber() || token.sign() != sign || token.at() == end) {
            throw new Fault(1, token.at());
        }
    }

    static Told parse(String text) {
        Told told = new Told();
        List<Token> list = tokens(text);
        int end = text.length();
        int p = 0;
        sign(list.get(p++), 't', end);
        while (true) {
            told.tides.add(number(list.get(p++), 0, 19));
            Token next = list.get(p++);
            if (!next.isNumber() && next.sign() == ',' && told.tides.size() < 12) {
                continue;
            }
            sign(next, ';', end);
            break;
        }
        while (list.get(p).at() != end) {
            Token word = list.get(p++);
            if (word.isNumber() || "twck".indexOf(word.sign()) < 0) {
                throw new Fault(1, word.at());
            }
            boolean again = word.sign() == 't' || word.sign() == 'w' && told.windTold
                || word.sign() == 'c' && told.heights.size() == 9 || word.sign() == 'k' && told.clauses.size() == 6;
            if (again) {
                throw new Fault(3, word.at());
            }
            if (word.sign() == 'w') {
                told.wind = number(list.get(p++), 1, 30);
                told.windTold = true;
            } else if (word.sign() == 'c') {
                told.heights.add(number(list.get(p++), 0, 19));
            } else {
                int takes = number(list.get(p++), 1, 6);
                Token leanToken = list.get(p++);
                int lean = number(leanToken, 0, 999);
                if (lean != 9 && lean >= told.clauses.size()) {
                    throw new Fault(2, leanToken.at());
                }
                int one = number(list.get(p++), 0, 20);
                int other = number(list.get(p++), 0, 20);
                told.clauses.add(new Clause(takes, lean == 9 ? NONE : lean, one, other));
            }
            sign(list.get(p++), ';', end);
        }
        return told;
    }

    int feed(int letter) {
        if (letter < 0 || letter > 255) {
            return OUTSIDE;
        }
        if (text.length() == 240) {
            return FULL;
        }
        text.append((char) letter);
        return text.length();
    }

    int strand() {
        String all = text.toString();
        text.setLength(0);
        Told next;
        try {
            next = all.replace(" ", "").isEmpty() ? null : parse(all);
        } catch (Fault f) {
            faultAt = f.at;
            return -10 - f.kind;
        }
        faultAt = NONE;
        told = next;
        now = new State();
        past.clear();
        seen.clear();
        book.clear();
        Arrays.fill(images, null);
        return clauses();
    }

    int fault() {
        return faultAt;
    }

    // ---- what is so

    int clauses() {
        return told == null ? 0 : told.clauses.size();
    }

    int cells() {
        return told == null ? 0 : told.heights.size();
    }

    Clause of(int k) {
        return told.clauses.get(k);
    }

    int tide(int hour) {
        return told == null ? 0 : told.tides.get(hour % told.tides.size());
    }

    boolean wet(int c, int hour) {
        return tide(hour) >= told.heights.get(c);
    }

    boolean done(State s, int k) {
        return s.cell[k] != NONE && s.written[k] == of(k).takes();
    }

    boolean inForce(State s, int k) {
        for (int on = k; on != NONE; on = of(on).lean()) {
            if (!done(s, on)) {
                return false;
            }
        }
        return true;
    }

    int force(State s) {
        int set = 0;
        for (int k = 0; k < clauses(); k++) {
            if (inForce(s, k)) {
                set += 1 << k;
            }
        }
        return set;
    }

    static void nowhere(State s, int k) {
        s.cell[k] = NONE;
        s.written[k] = 0;
        s.dry[k] = 0;
        if (s.stick == k) {
            s.stick = NONE;
        }
    }

    void pass(State s) {
        int stick = s.stick;
        for (int k = 0; k < clauses(); k++) {
            if (s.cell[k] == NONE) {
                continue;
            }
            boolean wasDone = done(s, k);
            if (wet(s.cell[k], s.hours)) {
                nowhere(s, k);
            } else if (k == stick) {
                s.written[k]++;
                if (done(s, k)) {
                    s.stick = NONE;
                }
            } else if (wasDone) {
                s.dry[k]++;
                if (s.dry[k] > told.wind) {
                    nowhere(s, k);
                }
            }
        }
        s.hours++;
        for (int k = 0; k < clauses(); k++) {
            if (inForce(s, k)) {
                s.one += of(k).one() - 10;
                s.other += of(k).other() - 10;
            }
        }
    }

    int inCell(State s, int c) {
        for (int k = 0; k < clauses(); k++) {
            if (s.cell[k] == c) {
                return k;
            }
        }
        return NONE;
    }

    boolean mayWrite(State s, int k, int c) {
        return s.cell[k] == NONE && s.stick == NONE && inCell(s, c) == NONE && !wet(c, s.hours);
    }

    static void put(State s, int k, int c) {
        s.cell[k] = c;
        s.stick = k;
    }

    boolean noClause(int k) {
        return k < 0 || k >= clauses();
    }

    boolean noCell(int c) {
        return c < 0 || c >= cells();
    }

    boolean noSet(int set) {
        return (set & ~((1 << clauses()) - 1)) != 0;
    }

    int wetCells() {
        int set = 0;
        for (int c = 0; c < cells(); c++) {
            if (wet(c, now.hours)) {
                set += 1 << c;
            }
        }
        return set;
    }

    int told(int what) {
        int[] answers = {
            told == null ? 0 : told.tides.size(), told == null ? 0 : told.wind, cells(), clauses(), text.length(),
            now.hours, tide(now.hours), wetCells(), now.stick, force(now),
            (int) (now.one + 1000000), (int) (now.other + 1000000), seen.size(), book.size(), past.size()};
        return what < 0 || what >= answers.length ? OUTSIDE : answers[what];
    }

    int clause(int k, int what) {
        if (noClause(k)) {
            return UNKNOWN;
        }
        Clause c = of(k);
        int[] answers = {c.takes(), c.lean(), c.one(), c.other(), now.cell[k], now.written[k], now.dry[k]};
        return what < 0 || what >= answers.length ? OUTSIDE : answers[what];
    }

    int cell(int c, int what) {
        if (noCell(c)) {
            return UNKNOWN;
        }
        int[] answers = {told.heights.get(c), inCell(now, c), wet(c, now.hours) ? 1 : 0};
        return what < 0 || what >= answers.length ? OUTSIDE : answers[what];
    }

    // ---- deeds

    void remember() {
        past.add(now.copy());
        if (past.size() > 30) {
            past.remove(0);
        }
    }

    int write(int k, int c) {
        if (noClause(k) || noCell(c)) {
            return UNKNOWN;
        }
        if (!mayWrite(now, k, c)) {
            return NOT;
        }
        remember();
        put(now, k, c);
        return of(k).takes();
    }

    int rub(int k) {
        if (noClause(k)) {
            return UNKNOWN;
        }
        if (now.cell[k] == NONE) {
            return NOT;
        }
        remember();
        int was = now.written[k];
        nowhere(now, k);
        return was;
    }

    int sweep() {
        int went = 0;
        for (int k = 0; k < clauses(); k++) {
            if (now.cell[k] != NONE) {
                went++;
                nowhere(now, k);
            }
        }
        return went;
    }

    int storm() {
        if (told == null) {
            return NOT;
        }
        remember();
        return sweep();
    }

    int draw(int n) {
        seed = (seed * 1103515245L + 12345L) % (1L << 31);
        return (int) (seed / 65536 % n);
    }

    int hours(int n, boolean drawn) {
        if (n < 1 || n > 30) {
            return OUTSIDE;
        }
        if (told == null) {
            return NOT;
        }
        if (now.hours > 9000) {
            return FULL;
        }
        for (int i = 0; i < n; i++) {
            remember();
            if (drawn) {
                if (clauses() > 0 && cells() > 0) {
                    int k = draw(clauses());
                    int c = draw(cells());
                    if (mayWrite(now, k, c)) {
                        put(now, k, c);
                    }
                }
                if (draw(16) == 0) {
                    sweep();
                }
            }
            pass(now);
        }
        return force(now);
    }

    int undo(int n) {
        if (n < 1 || n > 30) {
            return OUTSIDE;
        }
        if (past.size() < n) {
            return NOT;
        }
        for (int i = 0; i < n; i++) {
            now = past.remove(past.size() - 1);
        }
        return now.hours;
    }

    // ---- tried

    int lasts(int k, int c) {
        if (noClause(k) || noCell(c)) {
            return UNKNOWN;
        }
        if (now.cell[k] != NONE || wet(c, now.hours) || inCell(now, c) != NONE) {
            return NOT;
        }
        State s = now.copy();
        put(s, k, c);
        int count = 0;
        for (int i = 0; i < 100; i++) {
            pass(s);
            count += inForce(s, k) ? 1 : 0;
        }
        return count;
    }

    int washed(int k) {
        if (noClause(k)) {
            return UNKNOWN;
        }
        State s = now.copy();
        int i = 0;
        while (s.cell[k] != NONE && i <= 100) {
            pass(s);
            i++;
        }
        return i > 100 ? NONE : i;
    }

    int planSoonest;
    List<Integer> planBest;

    void plan(int set, int m, List<Integer> ks, List<Integer> cs) {
        if (ks.size() == Integer.bitCount(set)) {
            int at = planHours(set, m, ks, cs);
            if (at < planSoonest) {
                planSoonest = at;
                planBest = new ArrayList<>();
                for (int i = 0; i < ks.size(); i++) {
                    planBest.add(ks.get(i) + 10 * cs.get(i));
                }
            }
            return;
        }
        for (int k = 0; k < clauses(); k++) {
            if ((set >> k & 1) == 0 || ks.contains(k)) {
                continue;
            }
            for (int c = 0; c < cells(); c++) {
                ks.add(k);
                cs.add(c);
                plan(set, m, ks, cs);
                ks.remove(ks.size() - 1);
                cs.remove(cs.size() - 1);
            }
        }
    }

    int planHours(int set, int m, List<Integer> ks, List<Integer> cs) {
        State s = new State();
        s.hours = now.hours;
        int next = 0;
        int row = 0;
        for (int i = 1; i <= 40; i++) {
            if (next < ks.size() && mayWrite(s, ks.get(next), cs.get(next))) {
                put(s, ks.get(next), cs.get(next));
                next++;
            }
            pass(s);
            row = (force(s) & set) == set ? row + 1 : 0;
            if (row == m) {
                return i;
            }
        }
        return Integer.MAX_VALUE;
    }

    int plan(int set, int m, int i) {
        if (noSet(set)) {
            return UNKNOWN;
        }
        int size = Integer.bitCount(set);
        if (size < 1 || size > 3 || m < 1 || m > 12) {
            return OUTSIDE;
        }
        planSoonest = Integer.MAX_VALUE;
        plan(set, m, new ArrayList<>(), new ArrayList<>());
        if (planSoonest == Integer.MAX_VALUE) {
            return NONE;
        }
        if (i == NONE) {
            return planSoonest;
        }
        return i >= 0 && i < planBest.size() ? planBest.get(i) : NONE;
    }

    int[] worth(int set) {
        int[] both = new int[2];
        for (int k = 0; k < clauses(); k++) {
            if ((set >> k & 1) != 0) {
                both[0] += of(k).one() - 10;
                both[1] += of(k).other() - 10;
            }
        }
        return both;
    }

    int play(int set, int chosen, int turn, int n, int left) {
        if (turn == n) {
            return chosen;
        }
        int best = play(set, chosen, turn + 1, n, left);
        for (int k = 0; k < clauses(); k++) {
            if ((set >> k & 1) == 1 && (chosen >> k & 1) == 0 && of(k).takes() <= left) {
                int end = play(set, chosen | 1 << k, turn + 1, n, left - of(k).takes());
                if (worth(end)[turn % 2] > worth(best)[turn % 2]) {
                    best = end;
                }
            }
        }
        return best;
    }

    int bargain(int set, int n, int m, int what) {
        if (noSet(set)) {
            return UNKNOWN;
        }
        if (n < 1 || n > 6 || m < 0 || m > 30 || what < 0 || what > 2) {
            return OUTSIDE;
        }
        int end = play(set, 0, 0, n, m);
        return what == 2 ? end : worth(end)[what] + 100;
    }

    int crossing(int k) {
        if (noClause(k)) {
            return UNKNOWN;
        }
        State s = now.copy();
        for (int i = 0; i <= 99; i++) {
            boolean bare = true;
            for (int c = 0; c < cells(); c++) {
                bare &= !wet(c, s.hours);
            }
            if (bare && inForce(s, k)) {
                return i;
            }
            pass(s);
        }
        return NONE;
    }

    int leaners(int k) {
        if (noClause(k)) {
            return UNKNOWN;
        }
        int set = 0;
        for (int j = 0; j < clauses(); j++) {
            for (int on = of(j).lean(); on != NONE; on = of(on).lean()) {
                if (on == k) {
                    set |= 1 << j;
                }
            }
        }
        return set;
    }

    int storms(int n, int q) {
        if (n < 0 || n > 60 || q < 0 || q > 100) {
            return OUTSIDE;
        }
        java.math.BigInteger odds = java.math.BigInteger.valueOf(1000000000);
        for (int i = 0; i < n; i++) {
            odds = odds.multiply(java.math.BigInteger.valueOf(100 - q)).divide(java.math.BigInteger.valueOf(100));
        }
        return odds.intValue();
    }

    // ---- what was seen

    int see(int k, int h, boolean is) {
        if (noClause(k)) {
            return UNKNOWN;
        }
        if (h < 0 || h > 60) {
            return OUTSIDE;
        }
        if (seen.size() == 8) {
            return FULL;
        }
        seen.add(new int[] {k, h, is ? 1 : 0});
        return seen.size();
    }

    boolean forceFrom(int begin, int h, int k) {
        State s = new State();
        s.hours = begin;
        for (int j = 0; j < clauses() && j < cells(); j++) {
            s.cell[j] = j;
            s.written[j] = of(j).takes();
        }
        for (int i = 0; i < h; i++) {
            pass(s);
        }
        return inForce(s, k);
    }

    List<Integer> begins() {
        List<Integer> list = new ArrayList<>();
        for (int b = 0; b < 12 && told != null; b++) {
            boolean so = true;
            for (int[] s : seen) {
                so &= forceFrom(b, s[1], s[0]) == (s[2] == 1);
            }
            if (so) {
                list.add(b);
            }
        }
        return list;
    }

    int agreed(int what) {
        if (what < 0 || what > 2) {
            return OUTSIDE;
        }
        List<Integer> list = begins();
        if (what == 0) {
            return list.size();
        }
        if (what == 1) {
            return list.isEmpty() ? NONE : list.get(0);
        }
        int set = 0;
        for (int b : list) {
            set += 1 << b;
        }
        return set;
    }

    int lookAt(int h) {
        if (h < 0 || h > 60) {
            return OUTSIDE;
        }
        List<Integer> list = begins();
        int best = NONE;
        int least = Integer.MAX_VALUE;
        for (int k = 0; k < clauses(); k++) {
            int yes = 0;
            int no = 0;
            for (int b : list) {
                if (forceFrom(b, h, k)) {
                    yes++;
                } else {
                    no++;
                }
            }
            if (yes > 0 && no > 0 && Math.max(yes, no) < least) {
                least = Math.max(yes, no);
                best = k;
            }
        }
        return best;
    }

    int note(int k, int c) {
        if (noClause(k) || c != NONE && noCell(c)) {
            return UNKNOWN;
        }
        if (book.size() == 20) {
            return FULL;
        }
        book.add(new int[] {k, c});
        return book.size();
    }

    int judge() {
        for (int i = 0; i < book.size(); i++) {
            if (now.cell[book.get(i)[0]] != book.get(i)[1]) {
                return i;
            }
        }
        return NONE;
    }

    int tear() {
        int had = seen.size() + book.size();
        seen.clear();
        book.clear();
        return had;
    }

    // ---- images

    int seed(int v) {
        if (v < 0) {
            return OUTSIDE;
        }
        int was = (int) seed;
        seed = v;
        return was;
    }

    int keep(int i) {
        if (i != 0 && i != 1) {
            return UNKNOWN;
        }
        images[i] = now.copy();
        imageSeeds[i] = seed;
        past.clear();
        return 1;
    }

    int goBack(int i) {
        if (i != 0 && i != 1) {
            return UNKNOWN;
        }
        if (images[i] == null) {
            return NOT;
        }
        now = images[i].copy();
        seed = imageSeeds[i];
        past.clear();
        return 1;
    }
}
