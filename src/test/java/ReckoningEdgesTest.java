import java.math.BigInteger;
import java.util.List;

/** The edges that the document names of BEST, TIES, RESTS, ODDS, LENDER, THE SEED, FAMILIES, promises 19 to 25. */
public final class ReckoningEdgesTest {
    private static final int UNKNOWN = -1, BAD = -2, LATE = -3;
    private static final int[] NOBODY = {-1, -9, 7, 31, 32, -32, Integer.MIN_VALUE, Integer.MAX_VALUE};
    private static final BigInteger FACTOR = new BigInteger("6364136223846793005");
    private static final BigInteger STEP = new BigInteger("1442695040888963407");
    private static final BigInteger WRAP = BigInteger.ONE.shiftLeft(64);

    private ReckoningEdgesTest() {
    }

    public static void main(String[] args) {
        bestBad();
        bestLate();
        bestNoMoreThanThereIs();
        bestThenItGrows();
        bestTwoForEachLeft();
        bestFirstRow();
        tiesBadN();
        tiesNFigures();
        tiesOfWhoLives();
        tiesEachOnce();
        tiesUnknown();
        tiesOneBehindTheOther();
        tiesNobodyHolds();
        restsBad();
        restsLate();
        restsOfferedWhatIsAsked();
        restsFirst();
        oddsUnknown();
        oddsDoesNotLive();
        oddsAtSomeTime();
        oddsNobodyHoldsThen();
        oddsLeastTerms();
        lenderBad();
        lenderFirstTen();
        lenderEachNextTen();
        lenderNoHolder();
        seedTellsWhatItWas();
        seedStays();
        familiesBad();
        familiesWrap();
        familiesUpperBits();
        familiesIfThereIsSuchAOne();
        familiesAnotherHolder();
        familiesChangeNothingElse();
        Due.end();
    }

    private static void bestIs(EntailedLand x, int n, boolean own, int most, int row) {
        Due.is("best(" + n + ", " + own + ", false)", x.best(n, own, false), most);
        Due.is("best(" + n + ", " + own + ", true)", x.best(n, own, true), row);
    }

    private static void bestBad() {
        Due.sentence("19, Terms 2: BEST for n TENS (1 .. 4); BAD: n");
        EntailedLand x = Due.land("T00P009");
        int[] bad = {0, 5, -1, 6, Integer.MIN_VALUE, Integer.MAX_VALUE};
        for (int n : bad) {
            bestIs(x, n, true, BAD, BAD);
            bestIs(x, n, false, BAD, BAD);
        }
        bestIs(x, 1, false, 0, 10);
        bestIs(x, 4, false, 3, 10003);
        bestIs(x, 1, true, 2, 10);
        bestIs(x, 4, true, 8, 10000);
    }

    private static void bestLate() {
        Due.sentence("19: LATE: there is no HOLDER (and BAD is told first)");
        EntailedLand x = Due.land("T09P009");
        bestIs(x, 1, false, 3, 13);
        x.die(0);
        bestIs(x, 1, false, LATE, LATE);
        bestIs(x, 4, true, LATE, LATE);
        bestIs(x, 0, true, BAD, BAD);
        bestIs(x, 5, true, BAD, BAD);
        bestIs(Due.land("T09"), 1, false, LATE, LATE);
    }

    private static void bestNoMoreThanThereIs() {
        Due.sentence("Terms 2: the HOLDER cuts 0 .. 3 of TIMBER (no more than there is)");
        int[] most = {0, 1, 2, 3, 3, 3, 3, 3, 3, 3};
        for (int timber = 0; timber <= 9; timber++) {
            bestIs(Due.land("T0" + timber + "P009"), 1, false, most[timber], 10 + most[timber]);
        }
    }

    private static void bestThenItGrows() {
        Due.sentence("Terms 2: then it grows by one (9 at most)");
        // Of 9 that which does not grow is lost; of 8 nothing is.
        bestIs(Due.land("T08P009"), 1, true, 18, 10);
        bestIs(Due.land("T09P009"), 1, true, 19, 11);
        bestIs(Due.land("T09P009"), 4, true, 22, 11111);
        bestIs(Due.land("T08P009"), 2, true, 19, 101);
        bestIs(Due.land("T08P009"), 4, false, 11, 12333);
        bestIs(Due.land("T09P009"), 4, false, 12, 13333);
        bestIs(Due.land("T00P009"), 2, false, 1, 101);
    }

    private static void bestTwoForEachLeft() {
        Due.sentence("Terms 2: if the land is his own, 2 for each TIMBER that is left behind all");
        for (int timber = 0; timber <= 8; timber++) {
            EntailedLand x = Due.land("T0" + timber + "P009");
            bestIs(x, 1, true, 2 * (timber + 1), 10);
            Due.is("not his own", x.best(1, false, false), Math.min(3, timber));
        }
        bestIs(Due.land("T05P009"), 4, true, 18, 10000);
        bestIs(Due.land("T06P009"), 4, true, 19, 10001);
    }

    private static void bestFirstRow() {
        Due.sentence("Terms 2: the first such row of cuts (as figures behind a 1, the least as a number)");
        bestIs(Due.land("T04P009"), 2, false, 5, 123);
        bestIs(Due.land("T01P009"), 2, false, 2, 102);
        bestIs(Due.land("T05P009"), 2, false, 6, 133);
        bestIs(Due.land("T05P009"), 3, false, 7, 1133);
        bestIs(Due.land("T05P009"), 4, false, 8, 10233);
        bestIs(Due.land("T09P009"), 2, true, 20, 111);
    }

    private static final String SEVEN = "T00P009P008P007P006P005P004P003";

    private static void tiesBadN() {
        Due.sentence("20: BAD: n (1 .. 4)");
        EntailedLand x = Due.land(SEVEN);
        Due.is("n 0", x.ties(0, 0, 0), BAD);
        Due.is("n 0", x.ties(0, 1, 0), BAD);
        Due.is("n 1", x.ties(1, 2, 0), 15);
        Due.is("n 4", x.ties(4, 2345, 0), 15);
        Due.is("n 5", x.ties(5, 23456, 0), BAD);
        Due.is("n 6", x.ties(6, 234567, 0), BAD);
        Due.is("n -1", x.ties(-1, 2, 0), BAD);
        Due.is("n least", x.ties(Integer.MIN_VALUE, 2, 0), BAD);
        Due.is("n greatest", x.ties(Integer.MAX_VALUE, 2, 0), BAD);
    }

    private static void tiesNFigures() {
        Due.sentence("20: BAD: deaths (n figures)");
        EntailedLand x = Due.land(SEVEN);
        int[] deaths = {2, 23, 234, 2345, 23456};
        for (int n = 1; n <= 4; n++) {
            for (int k = 0; k < deaths.length; k++) {
                Due.is("ties(" + n + ", " + deaths[k] + ", 0)", x.ties(n, deaths[k], 0), n == k + 1 ? 15 : BAD);
            }
        }
        int[] bad = {0, -2, -23, Integer.MIN_VALUE, Integer.MAX_VALUE, 1000000002, 1000000000};
        for (int told : bad) {
            for (int n = 1; n <= 4; n++) {
                Due.is("ties(" + n + ", " + told + ", 0)", x.ties(n, told, 0), BAD);
            }
        }
    }

    private static void tiesOfWhoLives() {
        Due.sentence("20: BAD: deaths (.. each of a PERSON that lives)");
        EntailedLand x = Due.land(SEVEN);
        for (int figure = 0; figure <= 9; figure++) {
            Due.is("figure " + figure, x.ties(1, figure, 0), figure == 0 || figure > 7 ? BAD : figure == 1 ? 0 : 15);
            Due.is("figure 2" + figure, x.ties(2, 20 + figure, 0),
                    figure == 0 || figure > 7 || figure == 2 ? BAD : figure == 1 ? 0 : 15);
        }
        Due.is("a 0 amid", x.ties(3, 203, 0), BAD);
        Due.is("a 0 behind", x.ties(3, 230, 0), BAD);
        Due.is("an 8 first", x.ties(2, 82, 0), BAD);
        x.die(6);
        Due.is("who does not live", x.ties(1, 7, 0), BAD);
        Due.is("who does not live, behind", x.ties(2, 67, 0), BAD);
        x.undo();
        Due.is("who lives again", x.ties(1, 7, 0), 15);
        EntailedLand y = Due.land("T00P009P008");
        Due.is("the last", y.ties(1, 2, 0), 15);
        Due.is("one behind the last", y.ties(1, 3, 0), BAD);
        Due.is("nobody", new EntailedLand().ties(1, 1, 0), BAD);
    }

    private static void tiesEachOnce() {
        Due.sentence("20: BAD: deaths (.. each once)");
        EntailedLand x = Due.land(SEVEN);
        int[][] twice = {{2, 22}, {3, 223}, {3, 232}, {3, 322}, {4, 2342}, {4, 2324}, {4, 2234}, {4, 3422}, {4, 2222}};
        for (int[] told : twice) {
            Due.is("ties(" + told[0] + ", " + told[1] + ", 0)", x.ties(told[0], told[1], 0), BAD);
        }
        Due.is("each once", x.ties(4, 2453, 0), 15);
    }

    private static void tiesUnknown() {
        Due.sentence("20: UNKNOWN: person (and BAD is told first)");
        EntailedLand x = Due.land("T00P009P008");
        for (int p : NOBODY) {
            Due.is("person " + p, x.ties(1, 2, p), UNKNOWN);
            Due.is("n and person " + p, x.ties(0, 2, p), BAD);
            Due.is("n and person " + p, x.ties(5, 2, p), BAD);
            Due.is("deaths and person " + p, x.ties(1, 3, p), BAD);
            Due.is("deaths and person " + p, x.ties(2, 22, p), BAD);
        }
        Due.is("one behind the last", x.ties(1, 1, 2), UNKNOWN);
        Due.is("the last", x.ties(1, 1, 1), 15);
        Due.is("the first", x.ties(1, 2, 0), 15);
    }

    private static void tiesOneBehindTheOther() {
        Due.sentence("Terms 2: if PEOPLE die one behind the other as told, and behind all a told PERSON holds");
        // By SONS her second son holds only if the first one died ahead of her: behind him her LINE is nobody.
        EntailedLand x = Due.land("T00P019P005P004");
        Due.is("she, then the first son", x.ties(2, 12, 2), 0b1110);
        Due.is("the first son, then she", x.ties(2, 21, 2), 0b1111);
        Due.is("she alone", x.ties(1, 1, 1), 0b0111);
        Due.is("she alone", x.ties(1, 1, 2), 0b1000);
        Due.is("not she", x.ties(2, 23, 0), 0b1111);
        EntailedLand y = Due.land("T00P009P017P006P004");
        int[] heirs = {0b0000, 0b0110, 0b0001, 0b1000};
        for (int p = 0; p < 4; p++) {
            Due.is("ties(1, 1, " + p + ")", y.ties(1, 1, p), heirs[p]);
        }
        Due.is("nothing is changed", y.about(3), 0);
        Due.is("all live", y.about(1), 15);
    }

    private static void tiesNobodyHolds() {
        Due.sentence("Terms 2: TIES (bits) by which that is so (by none: 0)");
        EntailedLand x = Due.land("T00P009P008P007P006");
        for (int p = 0; p < 4; p++) {
            Due.is("all die", x.ties(4, 1234, p), 0);
        }
        Due.is("who has died", x.ties(1, 1, 0), 0);
        EntailedLand y = Due.land("T00P009P018");
        Due.is("a daughter", y.ties(1, 1, 1), 0b1110);
        y.die(0);
        Due.is("no holder", y.ties(1, 2, 1), 0);
    }

    private static void restsBad() {
        Due.sentence("21: BAD: w, what; Terms 3: w (told, 0 .. 9)");
        EntailedLand x = Due.land("T10P009P002");
        int[] bad = {-1, 10, 11, Integer.MIN_VALUE, Integer.MAX_VALUE};
        for (int w : bad) {
            Due.is("rests(" + w + ", 0)", x.rests(w, 0), BAD);
            Due.is("rests(" + w + ", 1)", x.rests(w, 1), BAD);
        }
        int[] badWhat = {-1, 2, 3, Integer.MIN_VALUE, Integer.MAX_VALUE};
        for (int what : badWhat) {
            Due.is("rests(0, " + what + ")", x.rests(0, what), BAD);
        }
        Due.is("w 0", x.rests(0, 0), 5);
        Due.is("w 9", x.rests(9, 0), 5);
        Due.is("what 1", x.rests(9, 1), 0);
    }

    private static void restsLate() {
        Due.sentence("21: LATE: there is no such HEIR (a child of age; and BAD is told first)");
        for (int age = 0; age <= 9; age++) {
            EntailedLand x = Due.land("T10P009P00" + age);
            Due.is("an heir of " + age, x.rests(5, 0), age >= 2 ? 5 : LATE);
            Due.is("an heir of " + age, x.rests(5, 1), age >= 2 ? 0 : LATE);
            Due.is("BAD is told first", x.rests(10, 0), BAD);
            Due.is("BAD is told first", x.rests(5, 2), BAD);
        }
        EntailedLand y = Due.land("T10P009P007P105");
        y.die(1);
        Due.is("a grandchild", y.rests(5, 0), LATE);
        EntailedLand z = Due.land("T10P009P007P006");
        z.die(0);
        Due.is("a brother", z.rests(5, 0), LATE);
        z.die(2);
        Due.is("no heir", z.rests(5, 0), LATE);
        z.die(1);
        Due.is("no holder", z.rests(5, 0), LATE);
        Due.is("no heir by sons", Due.land("T00P009P017").rests(5, 0), LATE);
        Due.is("nobody", Due.land("T00").rests(5, 0), LATE);
    }

    /** At rest are: asked and offered alike, up to w; and asked w or more (not 0), offered nothing. */
    private static void restsOfferedWhatIsAsked() {
        Due.sentence("Terms 3: asks 0 .. 4, offers 0 .. 4: if the offer is what is asked, or more; neither has more by "
                + "another choice alone: how many");
        EntailedLand x = Due.land("T10P009P002");
        int[] due = {5, 6, 6, 6, 6, 5, 5, 5, 5, 5};
        for (int w = 0; w <= 9; w++) {
            Due.is("rests(" + w + ", 0)", x.rests(w, 0), due[w]);
        }
    }

    private static void restsFirst() {
        Due.sentence("Terms 3: the first one (10 times the one and the other); NONE");
        EntailedLand x = Due.land("T10P009P002");
        // Nothing asked, nothing offered is at rest for each w: there is always a first one.
        for (int w = 0; w <= 9; w++) {
            Due.is("rests(" + w + ", 1)", x.rests(w, 1), 0);
        }
    }

    private static void oddsAre(EntailedLand x, int person, int above, int below) {
        Due.is("odds(" + person + ", true)", x.odds(person, true), above);
        Due.is("odds(" + person + ", false)", x.odds(person, false), below);
    }

    private static void oddsUnknown() {
        Due.sentence("22: UNKNOWN");
        EntailedLand x = Due.land("T10P009P005");
        for (int p : NOBODY) {
            oddsAre(x, p, UNKNOWN, UNKNOWN);
        }
        oddsAre(x, 2, UNKNOWN, UNKNOWN);
        oddsAre(x, 1, 1, 2);
        oddsAre(new EntailedLand(), 0, UNKNOWN, UNKNOWN);
        EntailedLand seven = Due.land(SEVEN);
        oddsAre(seven, 6, 1, 7);
        oddsAre(seven, 7, UNKNOWN, UNKNOWN);
    }

    private static void oddsDoesNotLive() {
        Due.sentence("Terms 3: ODDS of a PERSON: 0, if it does not live");
        EntailedLand x = Due.land("T10P009P005P003");
        oddsAre(x, 1, 1, 2);
        x.die(1);
        oddsAre(x, 1, 0, 1);
        oddsAre(x, 2, 1, 2);
        x.die(0);
        oddsAre(x, 0, 0, 1);
        oddsAre(x, 2, 1, 1);
        x.die(2);
        oddsAre(x, 2, 0, 1);
    }

    private static void oddsAtSomeTime() {
        Due.sentence("Terms 3: if all PEOPLE that live die one by one: that it holds at some time (none ever: 0, always: 1)");
        EntailedLand x = Due.land("T00P009P018P105");
        oddsAre(x, 0, 1, 1);
        oddsAre(x, 1, 0, 1);
        oddsAre(x, 2, 0, 1);
        x.die(0);
        oddsAre(x, 1, 0, 1);
        oddsAre(Due.land("T00P009"), 0, 1, 1);
        EntailedLand chain = Due.land("T10P009P008P107P206P305P404P503");
        for (int p = 0; p < 7; p++) {
            oddsAre(chain, p, 1, p + 1);
        }
    }

    private static void oddsNobodyHoldsThen() {
        Due.sentence("Terms 3: in each order as likely (also where nobody holds any more, though PEOPLE live)");
        EntailedLand daughters = Due.land("T00P009P018P017P016P015P014P013");
        EntailedLand oneSon = Due.land("T00P009P018P017P016P015P014P003");
        for (int p = 0; p < 7; p++) {
            oddsAre(daughters, p, p == 0 ? 1 : 0, 1);
            oddsAre(oneSon, p, p == 0 || p == 6 ? 1 : 0, p == 6 ? 2 : 1);
        }
    }

    private static void oddsLeastTerms() {
        Due.sentence("22, Terms 4: FRACTIONS are told above (upper = true), below, in least terms");
        EntailedLand x = Due.land("T20P009P018P105P004P103");
        x.die(0);
        Due.is("tied on sons then", x.breakTie(0), 2);
        oddsAre(x, 0, 0, 1);
        oddsAre(x, 1, 1, 1);
        oddsAre(x, 2, 1, 2);
        // Of 24 orders: her brother is behind 2 in 4, behind 4 in 1, behind herself in 2.
        oddsAre(x, 3, 7, 24);
        oddsAre(x, 4, 1, 6);
        oddsAre(Due.land("T00P019P005P004P003"), 3, 1, 12);
    }

    private static void lenderIs(EntailedLand x, int n, int more, int above, int below) {
        Due.is("lender(" + n + ", " + more + ", true)", x.lender(n, more, true), above);
        Due.is("lender(" + n + ", " + more + ", false)", x.lender(n, more, false), below);
    }

    private static void lenderBad() {
        Due.sentence("23, Terms 3: n TENS on (1 .. 5), x 0 .. 9; BAD: n, x");
        EntailedLand x = Due.land("T00P000");
        int[] badN = {0, 6, -1, 7, Integer.MIN_VALUE, Integer.MAX_VALUE};
        for (int n : badN) {
            lenderIs(x, n, 0, BAD, BAD);
            lenderIs(x, n, 10, BAD, BAD);
            lenderIs(new EntailedLand(), n, 0, BAD, BAD);
        }
        int[] badX = {-1, 10, 11, Integer.MIN_VALUE, Integer.MAX_VALUE};
        for (int more : badX) {
            lenderIs(x, 1, more, BAD, BAD);
            lenderIs(new EntailedLand(), 5, more, BAD, BAD);
        }
        lenderIs(x, 1, 0, 1, 1);
        lenderIs(x, 1, 9, 1, 10);
        lenderIs(x, 5, 0, 189, 625);
    }

    private static void lenderFirstTen() {
        Due.sentence("Terms 3: in the first one it dies by x and its age together (in tenths, 10 at most)");
        int[][] due = {{1, 1}, {9, 10}, {4, 5}, {7, 10}, {3, 5}, {1, 2}, {2, 5}, {3, 10}, {1, 5}, {1, 10}, {0, 1}};
        for (int age = 0; age <= 9; age++) {
            EntailedLand x = Due.land("T00P00" + age);
            for (int more = 0; more <= 9; more++) {
                int[] told = due[Math.min(10, age + more)];
                lenderIs(x, 1, more, told[0], told[1]);
            }
        }
        EntailedLand y = Due.land("T00P009");
        y.tens();
        lenderIs(y, 1, 0, 0, 1);
        for (int k = 0; k < 30; k++) {
            y.tens();
        }
        lenderIs(y, 1, 9, 0, 1);
        lenderIs(y, 5, 9, 0, 1);
    }

    private static void lenderEachNextTen() {
        Due.sentence("Terms 3: in each next one by 1 more (10 at most)");
        EntailedLand x = Due.land("T00P003");
        lenderIs(x, 2, 5, 1, 50);
        lenderIs(x, 2, 6, 0, 1);
        lenderIs(x, 2, 7, 0, 1);
        lenderIs(x, 3, 4, 3, 500);
        lenderIs(x, 3, 5, 0, 1);
        lenderIs(x, 4, 3, 3, 1250);
        lenderIs(x, 4, 4, 0, 1);
        lenderIs(x, 5, 2, 3, 2500);
        lenderIs(x, 5, 3, 0, 1);
        lenderIs(x, 5, 9, 0, 1);
    }

    private static void lenderNoHolder() {
        Due.sentence("Terms 3: there is no HOLDER: 0");
        EntailedLand x = Due.land("T00P002P014");
        lenderIs(x, 1, 0, 4, 5);
        x.die(0);
        for (int n = 1; n <= 5; n++) {
            lenderIs(x, n, 0, 0, 1);
            lenderIs(new EntailedLand(), n, 9, 0, 1);
        }
        x.undo();
        x.bear(0, 0);
        x.die(0);
        lenderIs(x, 1, 0, 1, 1);
    }

    private static void seedTellsWhatItWas() {
        Due.sentence("24: THE SEED is v: what it was; Terms 3: a long; 0 at first");
        EntailedLand x = new EntailedLand();
        long[] seeds = {Long.MIN_VALUE, Long.MAX_VALUE, -1, 1, 1L << 32, -4, 0};
        long was = 0;
        for (long v : seeds) {
            Due.is("seed(" + v + ")", x.seed(v), was);
            was = v;
        }
    }

    private static void seedStays() {
        Due.sentence("24, 5, 14, 27: THE SEED is none of what is undone, kept, made anew");
        EntailedLand x = Due.land("T00P009");
        x.seed(11);
        x.keep(0);
        x.tens();
        Due.is("seed", x.seed(12), 11);
        x.undo();
        Due.is("behind undo", x.seed(13), 12);
        x.again(0);
        Due.is("behind again", x.seed(14), 13);
        x.land();
        Due.is("behind land", x.seed(15), 14);
        x.wipe();
        Due.is("behind wipe", x.seed(16), 15);
        Due.is("no act", x.about(7), 0);
    }

    private static BigInteger goneOn(BigInteger seed) {
        return seed.multiply(FACTOR).add(STEP).mod(WRAP);
    }

    /** The seed from which one step leads to this. */
    private static long ahead(long after) {
        BigInteger then = BigInteger.valueOf(after).subtract(STEP);
        return then.multiply(FACTOR.modInverse(WRAP)).mod(WRAP).longValue();
    }

    /** PEOPLE that are drawn, one behind the other. */
    private static int drawn(long seed, int step) {
        BigInteger x = BigInteger.valueOf(seed).mod(WRAP);
        for (int k = 0; k < step; k++) {
            x = goneOn(x);
        }
        return x.shiftRight(33).mod(BigInteger.TEN).intValue();
    }

    private static void familiesBad() {
        Due.sentence("25, Terms 3: m times (1 .. 20); BAD: m");
        EntailedLand x = Due.land("T10P009P005P003");
        int[] bad = {0, 21, -1, 22, Integer.MIN_VALUE, Integer.MAX_VALUE};
        for (int m : bad) {
            x.seed(33);
            Due.is("families(" + m + ")", x.families(m), BAD);
            Due.is("the seed is as it was", x.seed(33), 33);
        }
        for (int m = 1; m <= 20; m++) {
            x.seed(33);
            Due.holds("families(" + m + ")", x.families(m) >= 0);
            BigInteger due = BigInteger.valueOf(33);
            for (int k = 0; k < m; k++) {
                due = goneOn(due);
            }
            Due.is("the seed behind " + m, x.seed(0), due.longValue());
        }
    }

    private static void familiesWrap() {
        Due.sentence("Terms 3: becomes x times 6364136223846793005 and 1442695040888963407 (64 bits, wrapping)");
        EntailedLand x = new EntailedLand();
        long[] seeds = {0, 1, -1, Long.MAX_VALUE, Long.MIN_VALUE, 1L << 62, -(1L << 62), 2};
        for (long v : seeds) {
            x.seed(v);
            Due.is("families(1) of nobody", x.families(1), 0);
            Due.is("the seed behind " + v, x.seed(0), goneOn(BigInteger.valueOf(v).mod(WRAP)).longValue());
        }
        x.seed(ahead(0));
        x.families(1);
        Due.is("round to 0", x.seed(0), 0);
        x.seed(ahead(Long.MIN_VALUE));
        x.families(1);
        Due.is("round to the least", x.seed(0), Long.MIN_VALUE);
    }

    private static void familiesUpperBits() {
        Due.sentence("Terms 3: what is left of its upper 31 bits by 10 is a PERSON");
        EntailedLand x = Due.land("T10P009P005P003");
        long lower = (1L << 33) - 1;
        long[] uppers = {0, 9, 10, 11, 1, 2147483640L, 2147483647L, 2147483639L, 1073741820L, 1073741830L, 1L << 30};
        for (long upper : uppers) {
            for (long rest = 0; rest <= lower; rest += lower) {
                x.seed(ahead(upper << 33 | rest));
                Due.is("upper " + upper + ", rest " + rest, x.families(1), upper % 10 == 0 ? 1 : 0);
                Due.is("the seed", x.seed(0), upper << 33 | rest);
            }
        }
    }

    private static void familiesIfThereIsSuchAOne() {
        Due.sentence("Terms 3: a PERSON that DIES, if there is such a one and it lives");
        for (int draws = 0; draws <= 9; draws++) {
            long seed = ahead((long) draws << 33);
            EntailedLand seven = Due.land(SEVEN);
            seven.seed(seed);
            Due.is("seven, drawn " + draws, seven.families(1), draws == 0 ? 1 : 0);
            EntailedLand none = new EntailedLand();
            none.seed(seed);
            Due.is("nobody, drawn " + draws, none.families(1), 0);
            EntailedLand second = Due.land("T10P009P005");
            second.die(0);
            second.seed(seed);
            Due.is("0 does not live, 1 holds, drawn " + draws, second.families(1), draws == 1 ? 1 : 0);
            EntailedLand heirless = Due.land("T00P009P015");
            heirless.die(0);
            heirless.seed(seed);
            Due.is("nobody holds, drawn " + draws, heirless.families(1), 0);
        }
    }

    /** The first seed from which these two are drawn. */
    private static long seedOf(int first, int second) {
        long seed = 0;
        while (drawn(seed, 1) != first || drawn(seed, 2) != second) {
            seed++;
        }
        return seed;
    }

    private static void familiesAnotherHolder() {
        Due.sentence("Terms 3: how often there is another HOLDER then than before");
        int[][] due = {{0, 1, 2}, {1, 0, 1}, {0, 0, 1}, {2, 0, 1}, {1, 2, 0}, {3, 0, 1}, {0, 3, 1}, {9, 8, 0}, {0, 2, 1}};
        for (int[] told : due) {
            EntailedLand x = Due.land("T10P009P005P003");
            x.seed(seedOf(told[0], told[1]));
            Due.is("drawn " + told[0] + ", then " + told[1], x.families(2), told[2]);
        }
        // The shared runs 3 and 5 ask it: nobody is another one than the last HOLDER.
        EntailedLand y = Due.land("T10P009");
        y.seed(seedOf(0, 0));
        Due.is("the last one, then nobody", y.families(2), 1);
    }

    private static void familiesChangeNothingElse() {
        Due.sentence("Terms 3: Nothing changes but THE SEED");
        EntailedLand x = Due.land("T15P009P005P003P102");
        x.borrow(5);
        x.tens();
        x.keep(0);
        List<Integer> before = Due.state(x);
        x.seed(seedOf(0, 1));
        Due.is("families(2)", x.families(2), 2);
        Due.holds("as it was", before.equals(Due.state(x)));
        x.families(20);
        Due.holds("as it was", before.equals(Due.state(x)));
        Due.is("undo", x.undo(), 1);
        Due.is("again(0)", x.again(0), 1);
        Due.is("again(1)", x.again(1), LATE);
    }
}
