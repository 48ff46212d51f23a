import java.util.ArrayList;
import java.util.List;
import java.util.Set;
import java.util.TreeSet;

/**
 * Terms 4: "What is refused changes nothing", and Terms 2: "In what follows nothing is changed". Of two objects that
 * were brought up alike one is asked a call more; then both must answer all else alike.
 */
public final class RefusalsTest {
    private static final int[] PEOPLE = {Integer.MIN_VALUE, -9, -1, 0, 1, 2, 3, 4, 5, 6, 7, 8, 31, 32, Integer.MAX_VALUE};
    private static final int[] SOME = {-1, 0, 3, 6, 7};
    private static final int[] TIES = {Integer.MIN_VALUE, -1, 0, 1, 2, 3, 4, Integer.MAX_VALUE};
    private static final int[] NUMBERS = {Integer.MIN_VALUE, -1, 0, 1, 2, 3, 4, 5, 6, 7, 8, 9, 10, 11, Integer.MAX_VALUE};
    private static final int[] DRAWS = {Integer.MIN_VALUE, -1, 0, 1, 20, 21, Integer.MAX_VALUE};
    private static final int[] DEATHS = {Integer.MIN_VALUE, -1, 0, 1, 2, 7, 8, 10, 11, 12, 71, 123, 121, 1234, 1231, 12345,
        Integer.MAX_VALUE};

    /** Each refusal that the document tells, and no other. */
    private static final Set<String> TOLD = Set.of("write BAD", "write FULL", "land LATE", "about BAD",
            "person UNKNOWN", "person BAD", "die UNKNOWN", "die LATE", "bear UNKNOWN", "bear BAD", "bear LATE", "bear FULL",
            "cut BAD", "cut LATE", "borrow BAD", "borrow LATE", "breakTie BAD", "breakTie LATE", "undo LATE",
            "heir UNKNOWN", "heir BAD", "line UNKNOWN", "line BAD", "next BAD", "ever BAD", "best BAD", "best LATE",
            "ties BAD", "ties UNKNOWN", "rests BAD", "rests LATE", "odds UNKNOWN", "lender BAD", "families BAD",
            "keep UNKNOWN", "again UNKNOWN", "again LATE");

    private interface Call {
        long ask(EntailedLand x);
    }

    private record Named(String name, boolean reads, Call call) {
    }

    private interface Life {
        void live(EntailedLand x);
    }

    private static final int CALLS_OF_A_LIFE = 75;
    private static final List<Named> CALLS = new ArrayList<>();

    private RefusalsTest() {
    }

    public static void main(String[] args) {
        Due.sentence("Terms 4: What is refused changes nothing; Terms 2: In what follows nothing is changed");
        callsOfTheLand();
        callsOfActs();
        callsOfHeirs();
        callsOfReckoning();
        List<Life> lives = List.of(x -> { }, RefusalsTest::amid, RefusalsTest::full, RefusalsTest::heirless,
                RefusalsTest::deserted, RefusalsTest::underAge);
        Set<String> met = new TreeSet<>();
        for (int k = 0; k < lives.size(); k++) {
            askAll("life " + k + ": ", lives.get(k), met);
        }
        Due.holds("refusals met: " + met, met.equals(new TreeSet<>(TOLD)));
        Due.end();
    }

    private static void askAll(String at, Life life, Set<String> met) {
        EntailedLand twin = new EntailedLand();
        life.live(twin);
        List<Long> due = Probe.spend(twin);
        Due.holds(at + "a probe is within 512 calls", due.size() + CALLS_OF_A_LIFE <= 512);
        for (Named named : CALLS) {
            EntailedLand x = new EntailedLand();
            life.live(x);
            long answer = named.call().ask(x);
            boolean refused = answer < 0 && answer >= -4;
            if (refused) {
                String call = named.name().substring(0, named.name().indexOf('('));
                met.add(call + " " + new String[] {"UNKNOWN", "BAD", "LATE", "FULL"}[(int) (-1 - answer)]);
            }
            if (refused || named.reads()) {
                Due.holds(at + named.name() + " changes nothing", due.equals(Probe.spend(x)));
            }
        }
    }

    private static void add(String name, boolean reads, Call call) {
        CALLS.add(new Named(name, reads, call));
    }

    private static void callsOfTheLand() {
        for (int letter : new int[] {Integer.MIN_VALUE, -1, 0, 'T', 255, 256, Integer.MAX_VALUE}) {
            add("write(" + letter + ")", false, x -> x.write(letter));
        }
        add("fault()", true, x -> x.fault());
        add("land()", false, x -> x.land());
        for (int what : NUMBERS) {
            add("about(" + what + ")", true, x -> x.about(what));
        }
        for (int p : PEOPLE) {
            for (int what : new int[] {-1, 0, 4, 5}) {
                add("person(" + p + ", " + what + ")", true, x -> x.person(p, what));
            }
        }
        for (int slot : NUMBERS) {
            add("keep(" + slot + ")", false, x -> x.keep(slot));
            add("again(" + slot + ")", false, x -> x.again(slot));
        }
    }

    private static void callsOfActs() {
        for (int p : PEOPLE) {
            add("die(" + p + ")", false, x -> x.die(p));
            for (int woman : new int[] {-1, 0, 1, 2}) {
                add("bear(" + p + ", " + woman + ")", false, x -> x.bear(p, woman));
            }
        }
        for (int n : NUMBERS) {
            add("cut(" + n + ")", false, x -> x.cut(n));
            add("borrow(" + n + ")", false, x -> x.borrow(n));
        }
        for (int tie : TIES) {
            add("breakTie(" + tie + ")", false, x -> x.breakTie(tie));
        }
        add("undo()", false, x -> x.undo());
    }

    private static void callsOfHeirs() {
        for (int tie : TIES) {
            add("next(" + tie + ")", true, x -> x.next(tie));
            add("ever(" + tie + ")", true, x -> x.ever(tie));
            for (int p : PEOPLE) {
                add("heir(" + p + ", " + tie + ")", true, x -> x.heir(p, tie));
            }
            for (int p : SOME) {
                for (int q : SOME) {
                    add("line(" + p + ", " + q + ", " + tie + ")", true, x -> x.line(p, q, tie));
                }
            }
        }
    }

    private static void callsOfReckoning() {
        for (int n : new int[] {-1, 0, 1, 4, 5, 6}) {
            for (boolean b : new boolean[] {false, true}) {
                add("best(" + n + ", " + b + ", true)", true, x -> x.best(n, b, true));
                add("best(" + n + ", " + b + ", false)", true, x -> x.best(n, b, false));
                for (int more : new int[] {-1, 0, 9, 10}) {
                    add("lender(" + n + ", " + more + ", " + b + ")", true, x -> x.lender(n, more, b));
                }
            }
            for (int deaths : DEATHS) {
                add("ties(" + n + ", " + deaths + ", 0)", true, x -> x.ties(n, deaths, 0));
                add("ties(" + n + ", " + deaths + ", 7)", true, x -> x.ties(n, deaths, 7));
            }
        }
        for (int w : NUMBERS) {
            for (int what : new int[] {-1, 0, 1, 2}) {
                add("rests(" + w + ", " + what + ")", true, x -> x.rests(w, what));
            }
        }
        for (int p : PEOPLE) {
            add("odds(" + p + ", true)", true, x -> x.odds(p, true));
            add("odds(" + p + ", false)", true, x -> x.odds(p, false));
        }
        for (int m : DRAWS) {
            add("families(" + m + ")", false, x -> x.families(m));
            // Where it is answered THE SEED alone is another one: with that put back all must be as it was.
            add("families(" + m + ") and its seed back", true, x -> {
                long seed = x.seed(0);
                x.seed(seed);
                x.families(m);
                x.seed(seed);
                return 0;
            });
        }
    }

    private static void tell(EntailedLand x, String text) {
        x.wipe();
        for (int k = 0; k < text.length(); k++) {
            x.write(text.charAt(k));
        }
    }

    /** A family amid its acts, one slot kept, a text begun. */
    private static void amid(EntailedLand x) {
        tell(x, "T15P009P017P006P105P104P203");
        x.land();
        x.seed(77);
        x.tens();
        x.keep(0);
        x.borrow(4);
        x.cut(2);
        x.die(4);
        tell(x, "T12P0");
    }

    /** All that can be full is: 40 bytes, 7 people, 14 acts, timber 9, loans 9, both slots. */
    private static void full(EntailedLand x) {
        tell(x, "T28P009P017P006P105P104P203P202");
        x.land();
        x.seed(-1);
        x.keep(1);
        for (int k = 0; k < 12; k++) {
            x.tens();
        }
        x.die(3);
        x.keep(0);
        x.borrow(5);
        x.borrow(4);
        for (int k = 0; k < 9; k++) {
            x.write('P');
        }
    }

    /** Women live, and nobody holds. */
    private static void heirless(EntailedLand x) {
        tell(x, "T05P009P017P105");
        x.land();
        x.seed(5);
        x.borrow(2);
        x.die(0);
        x.keep(1);
    }

    /** Nobody lives. */
    private static void deserted(EntailedLand x) {
        tell(x, "T35P009P007");
        x.land();
        x.die(0);
        x.die(1);
        x.tens();
        x.write('x');
    }

    /** The heir is one ten old; no act, nothing kept; the text makes another land. */
    private static void underAge(EntailedLand x) {
        tell(x, "T30P009P004P001");
        x.land();
        tell(x, "T29P019P007P016P105P104P203P202");
    }
}
