import java.util.ArrayDeque;
import java.util.ArrayList;
import java.util.Comparator;
import java.util.Deque;
import java.util.List;
import java.util.Random;

/** Runs of calls by a fixed seed against a second program that takes the document's words one by one. */
public final class ModelTest {
    private static final int UNKNOWN = -1, BAD = -2, LATE = -3, FULL = -4, NONE = -9;
    private static final int RUNS = 800;
    private static final int MOST_CALLS = 512;
    private static final int CALLS_OF_ONE_STEP = 75;

    private ModelTest() {
    }

    /** One PERSON; the parent is a number, so that a copy stays whole. */
    private static final class One {
        final int number;
        final int parent;
        final boolean woman;
        int age;
        boolean lives = true;

        One(int number, int parent, boolean woman, int age) {
            this.number = number;
            this.parent = parent;
            this.woman = woman;
            this.age = age;
        }

        One copy() {
            One c = new One(number, parent, woman, age);
            c.lives = lives;
            return c;
        }
    }

    private static final class State {
        List<One> people = new ArrayList<>();
        int holder = NONE, tie, timber, loans, time;

        State copy() {
            State c = new State();
            for (One p : people) {
                c.people.add(p.copy());
            }
            c.holder = holder;
            c.tie = tie;
            c.timber = timber;
            c.loans = loans;
            c.time = time;
            return c;
        }

        boolean has(int p) {
            return p >= 0 && p < people.size();
        }

        int living() {
            int bits = 0;
            for (One p : people) {
                bits += p.lives ? 1 << p.number : 0;
            }
            return bits;
        }

        List<One> children(int parent, int tie) {
            List<One> all = new ArrayList<>();
            for (One p : people) {
                if (p.parent == parent && !(tie == 0 && p.woman)) {
                    all.add(p);
                }
            }
            Comparator<One> older = Comparator.<One>comparingInt(p -> -p.age).thenComparingInt(p -> p.number);
            if (tie == 2) {
                all.sort(Comparator.<One>comparingInt(p -> p.woman ? 0 : 1).thenComparing(older));
            } else {
                all.sort(tie == 3 ? older.reversed() : older);
            }
            return all;
        }

        List<Integer> line(int p, int tie) {
            List<Integer> row = new ArrayList<>();
            if (tie == 0 && people.get(p).woman) {
                return row;
            }
            row.add(p);
            for (One c : children(p, tie)) {
                row.addAll(line(c.number, tie));
            }
            return row;
        }

        int heir(int p, int tie) {
            List<Integer> row = new ArrayList<>();
            for (One c : children(p, tie)) {
                row.addAll(line(c.number, tie));
            }
            for (int up = people.get(p).parent; up != NONE; up = people.get(up).parent) {
                row.addAll(line(up, tie));
            }
            for (int q : row) {
                if (q != p && people.get(q).lives) {
                    return q;
                }
            }
            return NONE;
        }

        void dies(int p) {
            people.get(p).lives = false;
            if (p == holder) {
                holder = heir(p, tie);
                loans = 0;
            }
        }

        boolean childOfAge() {
            if (holder == NONE) {
                return false;
            }
            int h = heir(holder, tie);
            return h != NONE && people.get(h).parent == holder && people.get(h).age >= 2;
        }
    }

    private static final class Model {
        StringBuilder text = new StringBuilder();
        State s = new State();
        Deque<State> acts = new ArrayDeque<>();
        State[] slots = new State[2];
        long seed;

        int write(int c) {
            if (c < 0 || c > 255) {
                return BAD;
            }
            if (text.length() == 40) {
                return FULL;
            }
            text.append((char) c);
            return text.length();
        }

        int wipe() {
            int n = text.length();
            text.setLength(0);
            return n;
        }

        /** Whether something behind it can make a LAND of a text: the shortest ends are tried. */
        static boolean canBecome(String t) {
            String[] whole = {"T00", "00", "0", "", "P000", "000", "00", "0"};
            for (String end : whole) {
                if (isLand(t + end)) {
                    return true;
                }
            }
            return false;
        }

        static boolean isLand(String t) {
            if (!t.matches("T[0-3][0-9](P[0-6][01][0-9]){0,7}")) {
                return false;
            }
            for (int k = 0; 3 + 4 * k < t.length(); k++) {
                int parent = t.charAt(4 + 4 * k) - '0';
                if (k == 0 ? parent != 0 : parent >= k) {
                    return false;
                }
            }
            return true;
        }

        int fault() {
            for (int k = 1; k <= text.length(); k++) {
                if (!canBecome(text.substring(0, k))) {
                    return k - 1;
                }
            }
            return isLand(text.toString()) ? NONE : text.length();
        }

        int land() {
            if (fault() != NONE) {
                return LATE;
            }
            s = new State();
            s.tie = text.charAt(1) - '0';
            s.timber = text.charAt(2) - '0';
            for (int k = 3; k < text.length(); k += 4) {
                int n = s.people.size();
                s.people.add(new One(n, n == 0 ? NONE : text.charAt(k + 1) - '0', text.charAt(k + 2) == '1', text.charAt(k + 3) - '0'));
            }
            s.holder = s.people.isEmpty() ? NONE : 0;
            acts.clear();
            slots = new State[2];
            return s.people.size();
        }

        int about(int what) {
            int[] all = {s.people.size(), s.living(), s.holder, s.tie, s.timber, s.loans, s.time, acts.size(), text.length()};
            return what < 0 || what >= all.length ? BAD : all[what];
        }

        int person(int p, int what) {
            if (!s.has(p)) {
                return UNKNOWN;
            }
            One one = s.people.get(p);
            int children = 0;
            for (One c : s.people) {
                children += c.parent == p ? 1 << c.number : 0;
            }
            int[] all = {one.parent, one.woman ? 1 : 0, one.age, one.lives ? 1 : 0, children};
            return what < 0 || what >= all.length ? BAD : all[what];
        }

        void act() {
            acts.addLast(s.copy());
            if (acts.size() > 14) {
                acts.removeFirst();
            }
        }

        int die(int p) {
            if (!s.has(p)) {
                return UNKNOWN;
            }
            if (!s.people.get(p).lives) {
                return LATE;
            }
            act();
            s.dies(p);
            return s.holder;
        }

        int bear(int parent, int woman) {
            if (!s.has(parent)) {
                return UNKNOWN;
            }
            if (woman < 0 || woman > 1) {
                return BAD;
            }
            if (!s.people.get(parent).lives) {
                return LATE;
            }
            if (s.people.size() == 7) {
                return FULL;
            }
            act();
            s.people.add(new One(s.people.size(), parent, woman == 1, 0));
            return s.people.size() - 1;
        }

        int cut(int n) {
            if (n < 1 || n > 9) {
                return BAD;
            }
            if (n > s.timber || s.holder == NONE) {
                return LATE;
            }
            act();
            return s.timber -= n;
        }

        int borrow(int n) {
            if (n < 1 || n > 9) {
                return BAD;
            }
            if (s.loans + n > 9 || s.holder == NONE) {
                return LATE;
            }
            act();
            return s.loans += n;
        }

        int breakTie(int tie) {
            if (tie < 0 || tie > 3) {
                return BAD;
            }
            if (!s.childOfAge() || s.tie == tie) {
                return LATE;
            }
            act();
            int was = s.tie;
            s.tie = tie;
            return was;
        }

        int tens() {
            act();
            for (One p : s.people) {
                p.age++;
            }
            s.timber = Math.min(9, s.timber + 1);
            return ++s.time;
        }

        int undo() {
            if (acts.isEmpty()) {
                return LATE;
            }
            s = acts.removeLast();
            return acts.size();
        }

        int heir(int p, int tie) {
            return !s.has(p) ? UNKNOWN : tie < 0 || tie > 3 ? BAD : s.heir(p, tie);
        }

        int line(int p, int other, int tie) {
            if (!s.has(p) || !s.has(other)) {
                return UNKNOWN;
            }
            if (tie < 0 || tie > 3) {
                return BAD;
            }
            int place = s.line(p, tie).indexOf(other);
            return place < 0 ? NONE : place;
        }

        int next(int tie) {
            if (tie < 0 || tie > 3) {
                return BAD;
            }
            State t = s.copy();
            t.tie = tie;
            int figures = 0;
            while (t.holder != NONE) {
                figures = 10 * figures + t.holder + 1;
                t.dies(t.holder);
            }
            return figures;
        }

        int ever(int tie) {
            if (tie < 0 || tie > 3) {
                return BAD;
            }
            if (s.holder == NONE) {
                return 0;
            }
            int bits = 1 << s.holder;
            for (int set = 0; set < 128; set++) {
                State t = s.copy();
                t.people.get(s.holder).lives = false;
                for (One p : t.people) {
                    p.lives &= (set >> p.number & 1) == 0;
                }
                int h = t.heir(s.holder, tie);
                bits |= h == NONE ? 0 : 1 << h;
            }
            return bits;
        }

        int best(int n, boolean own, boolean row) {
            if (n < 1 || n > 4) {
                return BAD;
            }
            if (s.holder == NONE) {
                return LATE;
            }
            int most = -1;
            int first = 0;
            for (int cuts = 0; cuts < 1 << 2 * n; cuts++) {
                int timber = s.timber;
                int all = 0;
                int figures = 1;
                for (int k = n - 1; k >= 0 && timber >= 0; k--) {
                    int c = cuts >> 2 * k & 3;
                    figures = 10 * figures + c;
                    all += c;
                    timber -= c;
                    timber = timber < 0 ? -1 : Math.min(9, timber + 1);
                }
                if (timber >= 0 && all + (own ? 2 * timber : 0) > most) {
                    most = all + (own ? 2 * timber : 0);
                    first = figures;
                }
            }
            return row ? first : most;
        }

        int ties(int n, int deaths, int person) {
            String figures = String.valueOf(deaths);
            if (n < 1 || n > 4 || figures.length() != n || !figures.matches("[1-7]+")) {
                return BAD;
            }
            int seen = 0;
            for (int k = 0; k < n; k++) {
                int p = figures.charAt(k) - '1';
                if (!s.has(p) || !s.people.get(p).lives || (seen >> p & 1) == 1) {
                    return BAD;
                }
                seen |= 1 << p;
            }
            if (!s.has(person)) {
                return UNKNOWN;
            }
            int bits = 0;
            for (int tie = 0; tie < 4; tie++) {
                State t = s.copy();
                t.tie = tie;
                for (int k = 0; k < n; k++) {
                    t.dies(figures.charAt(k) - '1');
                }
                bits |= t.holder == person ? 1 << tie : 0;
            }
            return bits;
        }

        int rests(int w, int what) {
            if (w < 0 || w > 9 || what < 0 || what > 1) {
                return BAD;
            }
            if (!s.childOfAge()) {
                return LATE;
            }
            int count = 0;
            int first = NONE;
            for (int a = 4; a >= 0; a--) {
                for (int b = 4; b >= 0; b--) {
                    boolean better = false;
                    for (int k = 0; k <= 4; k++) {
                        better |= has(k, b, w)[0] > has(a, b, w)[0] || has(a, k, w)[1] > has(a, b, w)[1];
                    }
                    if (!better) {
                        count++;
                        first = 10 * a + b;
                    }
                }
            }
            return what == 0 ? count : first;
        }

        static int[] has(int asked, int offered, int w) {
            return offered >= asked ? new int[] {offered, w - offered} : new int[] {0, 0};
        }

        int odds(int p, boolean upper) {
            if (!s.has(p)) {
                return UNKNOWN;
            }
            if (!s.people.get(p).lives) {
                return upper ? 0 : 1;
            }
            int[] counts = new int[2];
            eachOrder(s, p, s.holder == p, counts);
            return least(counts[0], counts[1], upper);
        }

        static void eachOrder(State t, int p, boolean held, int[] counts) {
            if (t.living() == 0) {
                counts[0] += held ? 1 : 0;
                counts[1]++;
                return;
            }
            for (One one : t.people) {
                if (one.lives) {
                    State then = t.copy();
                    then.dies(one.number);
                    eachOrder(then, p, held || then.holder == p, counts);
                }
            }
        }

        static int least(int above, int below, boolean upper) {
            for (int k = below; k > 1; k--) {
                if (above % k == 0 && below % k == 0) {
                    return upper ? above / k : below / k;
                }
            }
            return upper ? above : below;
        }

        int lender(int n, int x, boolean upper) {
            if (n < 1 || n > 5 || x < 0 || x > 9) {
                return BAD;
            }
            int above = s.holder == NONE ? 0 : 1;
            int below = 1;
            for (int k = 0; k < n; k++) {
                int dies = s.holder == NONE ? 10 : Math.min(10, x + s.people.get(s.holder).age + k);
                above *= 10 - dies;
                below *= 10;
            }
            return least(above, below, upper);
        }

        long seed(long v) {
            long was = seed;
            seed = v;
            return was;
        }

        int families(int m) {
            if (m < 1 || m > 20) {
                return BAD;
            }
            State t = s.copy();
            int count = 0;
            for (int k = 0; k < m; k++) {
                seed = seed * 6364136223846793005L + 1442695040888963407L;
                int p = (int) (Long.divideUnsigned(seed, 1L << 33) % 10);
                int before = t.holder;
                if (t.has(p) && t.people.get(p).lives) {
                    t.dies(p);
                }
                count += before != t.holder ? 1 : 0;
            }
            return count;
        }

        int keep(int slot) {
            if (slot < 0 || slot > 1) {
                return UNKNOWN;
            }
            slots[slot] = s.copy();
            return s.time;
        }

        int again(int slot) {
            if (slot < 0 || slot > 1) {
                return UNKNOWN;
            }
            if (slots[slot] == null) {
                return LATE;
            }
            s = slots[slot].copy();
            acts.clear();
            return s.time;
        }
    }

    public static void main(String[] args) {
        Random r = new Random(20261118);
        for (int run = 0; run < RUNS && Due.wrong() < 20; run++) {
            EntailedLand x = new EntailedLand();
            Model m = new Model();
            int costly = 0;
            int began = Due.asked();
            // Each answer asked for is one call; one step more and the states at the end are still within the 512.
            for (int call = 0; call < MOST_CALLS && Due.asked() - began + 2 * CALLS_OF_ONE_STEP <= MOST_CALLS; call++) {
                int kind = call == 0 ? 0 : r.nextInt(32);
                if (kind == 29 && costly++ > 0) {
                    kind = 28;
                }
                once("run " + run + " call " + call + " ", kind, x, m, r);
            }
            states("run " + run + " ", x, m);
        }
        Due.end();
    }

    private static int wild(Random r, int least, int greatest) {
        if (r.nextInt(40) == 0) {
            int[] far = {Integer.MIN_VALUE, Integer.MAX_VALUE, -9, 31, 32, 64, -32};
            return far[r.nextInt(far.length)];
        }
        int spread = r.nextInt(8) == 0 ? 2 : 0;
        return least - spread + r.nextInt(greatest - least + 1 + 2 * spread);
    }

    private static void tellBoth(EntailedLand x, Model m, Random r, String at) {
        Due.is(at + "wipe", x.wipe(), m.wipe());
        StringBuilder t = new StringBuilder();
        t.append('T').append(r.nextInt(4)).append(r.nextInt(10));
        int people = r.nextInt(8);
        for (int k = 0; k < people; k++) {
            t.append('P').append(k == 0 ? 0 : r.nextInt(r.nextBoolean() ? k : Math.min(k, 2)));
            t.append(r.nextInt(2)).append(r.nextInt(10));
        }
        if (r.nextInt(3) == 0) {
            int place = r.nextInt(t.length());
            t.setCharAt(place, "T0123456789P/:x".charAt(r.nextInt(15)));
        }
        if (r.nextInt(4) == 0) {
            t.setLength(r.nextInt(t.length() + 1));
        }
        for (int k = 0; k < t.length(); k++) {
            Due.is(at + "write " + t, x.write(t.charAt(k)), m.write(t.charAt(k)));
        }
        Due.is(at + "fault of " + t, x.fault(), m.fault());
        Due.is(at + "land of " + t, x.land(), m.land());
    }

    private static int figures(Random r) {
        int all = 0;
        for (int k = r.nextInt(5); k >= 0; k--) {
            all = 10 * all + r.nextInt(8);
        }
        return r.nextInt(20) == 0 ? -all : all;
    }

    private static void states(String at, EntailedLand x, Model m) {
        for (int what = -1; what < 10; what++) {
            Due.is(at + "about " + what, x.about(what), m.about(what));
        }
        for (int p = -1; p < 8; p++) {
            for (int what = -1; what < 6; what++) {
                Due.is(at + "person " + p + " " + what, x.person(p, what), m.person(p, what));
            }
        }
    }

    private static void once(String at, int kind, EntailedLand x, Model m, Random r) {
        int p = wild(r, 0, 6);
        int q = wild(r, 0, 6);
        int tie = wild(r, 0, 3);
        int n = wild(r, 1, 4);
        boolean b = r.nextBoolean();
        boolean c = r.nextBoolean();
        switch (kind) {
            case 0 -> {
                if (r.nextInt(5) == 0 || m.s.people.isEmpty()) {
                    tellBoth(x, m, r, at);
                }
            }
            case 1 -> Due.is(at + "write", x.write(q), m.write(q));
            case 2 -> Due.is(at + "fault", x.fault(), m.fault());
            case 3 -> states(at, x, m);
            case 4 -> Due.is(at + "die " + p, x.die(p), m.die(p));
            case 5, 6 -> Due.is(at + "bear " + p, x.bear(p, tie >> 1), m.bear(p, tie >> 1));
            case 7 -> Due.is(at + "cut " + p, x.cut(p), m.cut(p));
            case 8 -> Due.is(at + "borrow " + p, x.borrow(p), m.borrow(p));
            case 9, 10, 11 -> Due.is(at + "breakTie " + tie, x.breakTie(tie), m.breakTie(tie));
            case 12, 13 -> Due.is(at + "tens", x.tens(), m.tens());
            case 14, 15, 16 -> Due.is(at + "undo", x.undo(), m.undo());
            case 17, 18 -> Due.is(at + "heir " + p + " " + tie, x.heir(p, tie), m.heir(p, tie));
            case 19 -> Due.is(at + "line " + p + " " + q + " " + tie, x.line(p, q, tie), m.line(p, q, tie));
            case 20 -> Due.is(at + "next " + tie, x.next(tie), m.next(tie));
            case 21 -> Due.is(at + "ever " + tie, x.ever(tie), m.ever(tie));
            case 22 -> Due.is(at + "best " + n + " " + b + " " + c, x.best(n, b, c), m.best(n, b, c));
            case 23, 24, 25 -> {
                int deaths = figures(r);
                int so = r.nextInt(6) == 0 ? n : String.valueOf(Math.abs(deaths)).length();
                Due.is(at + "ties " + so + " " + deaths + " " + p, x.ties(so, deaths, p), m.ties(so, deaths, p));
            }
            case 26 -> {
                int w = wild(r, 0, 9);
                Due.is(at + "rests " + w, x.rests(w, tie >> 1), m.rests(w, tie >> 1));
            }
            case 27 -> {
                int w = wild(r, 0, 9);
                Due.is(at + "lender " + n + " " + w, x.lender(n, w, b), m.lender(n, w, b));
            }
            case 28 -> {
                long v = r.nextLong();
                Due.is(at + "seed", x.seed(v), m.seed(v));
            }
            case 29 -> {
                for (int k = -1; k < 8; k++) {
                    Due.is(at + "odds " + k, x.odds(k, b), m.odds(k, b));
                }
            }
            case 30 -> {
                int so = wild(r, 1, 20);
                Due.is(at + "families " + so, x.families(so), m.families(so));
            }
            default -> {
                int slot = wild(r, 0, 1);
                if (b) {
                    Due.is(at + "keep " + slot, x.keep(slot), m.keep(slot));
                } else {
                    Due.is(at + "again " + slot, x.again(slot), m.again(slot));
                }
            }
        }
    }
}
