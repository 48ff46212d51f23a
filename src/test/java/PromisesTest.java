import java.util.List;

/** Each promise by hand-made runs: ordinary inputs, the edges that the document names, wrong inputs. */
public final class PromisesTest {
    private static final int UNKNOWN = -1, BAD = -2, LATE = -3, FULL = -4, NONE = -9;
    private static final int[] NO_TIE = {-1, 4, Integer.MIN_VALUE, Integer.MAX_VALUE};
    private static final int[] NOBODY = {-1, 7, -9, 31, 32, Integer.MIN_VALUE, Integer.MAX_VALUE};

    /** A man of 80 with a daughter, two sons, and grandchildren by the daughter and by the older son. */
    private static final String FAMILY = "T05P008P014P005P002P110P111P201";

    private PromisesTest() {
    }

    public static void main(String[] args) {
        newObject();
        write();
        wipe();
        fault();
        land();
        about();
        person();
        die();
        bear();
        cut();
        borrow();
        breakTie();
        tens();
        undo();
        heir();
        line();
        next();
        ever();
        best();
        ties();
        rests();
        odds();
        lender();
        seed();
        families();
        keep();
        again();
        Due.end();
    }

    private static void newObject() {
        EntailedLand x = new EntailedLand();
        int[] first = {0, 0, NONE, 0, 0, 0, 0, 0, 0};
        for (int what = 0; what < first.length; what++) {
            Due.is("1 about(" + what + ")", x.about(what), first[what]);
        }
        Due.is("1 seed", x.seed(0), 0);
        Due.is("1 again(0)", x.again(0), LATE);
        Due.is("1 again(1)", x.again(1), LATE);
    }

    private static void write() {
        EntailedLand x = new EntailedLand();
        Due.is("2 write(-1)", x.write(-1), BAD);
        Due.is("2 write(256)", x.write(256), BAD);
        Due.is("2 write(least)", x.write(Integer.MIN_VALUE), BAD);
        Due.is("2 write(0)", x.write(0), 1);
        Due.is("2 write(255)", x.write(255), 2);
        for (int k = 3; k <= 40; k++) {
            Due.is("2 write(65)", x.write(65), k);
        }
        Due.is("2 the 41st", x.write(65), FULL);
        Due.is("2 BAD is told ahead of FULL", x.write(256), BAD);
        Due.is("2 bytes", x.about(8), 40);
    }

    private static void wipe() {
        EntailedLand x = new EntailedLand();
        Due.is("3 wipe of nothing", x.wipe(), 0);
        Due.tell(x, "T00P009");
        Due.is("3 wipe", x.wipe(), 7);
        Due.is("3 bytes", x.about(8), 0);
        Due.is("3 fault", x.fault(), 0);
        EntailedLand y = Due.land("T13P009");
        Due.is("3 wipe", y.wipe(), 7);
        Due.is("3 the land stays", y.about(0), 1);
        Due.is("3 the tie stays", y.about(3), 1);
    }

    private static void fault() {
        faultOf("", 0);
        faultOf("T", 1);
        faultOf("T0", 2);
        faultOf("T00", NONE);
        faultOf("T39", NONE);
        faultOf("t", 0);
        faultOf("P", 0);
        faultOf("T4", 1);
        faultOf("T/", 1);
        faultOf("T4x", 1);
        faultOf("T0/", 2);
        faultOf("T0:", 2);
        faultOf("T00p", 3);
        faultOf("T000", 3);
        faultOf("T00P", 4);
        faultOf("T00P0", 5);
        faultOf("T00P1", 4);
        faultOf("T00P/", 4);
        faultOf("T00P00", 6);
        faultOf("T00P02", 5);
        faultOf("T00P0/", 5);
        faultOf("T00P009", NONE);
        faultOf("T00P01:", 6);
        faultOf("T00P01/", 6);
        faultOf("T00P000P000", NONE);
        faultOf("T00P000P1", 8);
        faultOf("T00P000P000P1", 13);
        faultOf("T00P000P000P2", 12);
        faultOf("T00P000P000P119", NONE);
        faultOf("T00P000P000P119T", 15);
        String seven = "T00P000P000P100P200P300P400P500";
        faultOf(seven, NONE);
        faultOf(seven + "P", 31);
        faultOf(seven + "P00012345", 31);
        faultOf("T00P000P000P100P200P300P400P600", 28);
        faultOf("T00P000P000P100P200P300P40", 26);
        EntailedLand x = new EntailedLand();
        x.write('T');
        x.write(200);
        Due.is("4 fault of a byte over 127", x.fault(), 1);
    }

    private static void faultOf(String text, int due) {
        EntailedLand x = new EntailedLand();
        Due.tell(x, text);
        Due.is("4 fault of " + text, x.fault(), due);
        Due.is("4 fault of " + text + " once more", x.fault(), due);
        Due.is("5 land of " + text, x.land(), due == NONE ? (text.length() - 3) / 4 : LATE);
    }

    private static void land() {
        EntailedLand x = Due.land("T29");
        Due.is("5 nobody", x.about(0), 0);
        Due.is("5 no holder", x.about(2), NONE);
        Due.is("5 tie", x.about(3), 2);
        Due.is("5 timber", x.about(4), 9);
        EntailedLand y = Due.land("T12P009P014");
        y.seed(77);
        y.borrow(3);
        y.tens();
        y.keep(0);
        y.keep(1);
        y.die(0);
        List<Integer> before = Due.state(y);
        y.write('X');
        Due.is("5 LATE", y.land(), LATE);
        Due.holds("5 what is refused changes nothing", before.equals(Due.state(y)));
        Due.is("5 what was kept stays, if refused", y.again(1), 1);
        Due.tell(y, "T34P013P002");
        Due.is("5 land", y.land(), 2);
        int[] anew = {2, 3, 0, 3, 4, 0, 0, 0, 11};
        for (int what = 0; what < anew.length; what++) {
            Due.is("5 about(" + what + ")", y.about(what), anew[what]);
        }
        Due.is("5 no acts", y.undo(), LATE);
        Due.is("5 kept 0 is gone", y.again(0), LATE);
        Due.is("5 kept 1 is gone", y.again(1), LATE);
        Due.is("5 the seed stays", y.seed(0), 77);
        Due.is("5 a woman now", y.person(0, 1), 1);
        Due.is("5 a man now", y.person(1, 1), 0);
        Due.is("5 the text stays", y.land(), 2);
        y.tens();
        y.cut(1);
        Due.is("5 land behind acts", y.land(), 2);
        Due.is("5 acts", y.about(7), 0);
        Due.is("5 none to undo", y.undo(), LATE);
        Due.tell(y, "T00");
        Due.is("5 nobody once more", y.land(), 0);
        Due.is("5 nobody lives", y.about(1), 0);
        Due.is("5 nobody holds", y.about(2), NONE);
    }

    private static void about() {
        EntailedLand x = Due.land("T16P009P014P003");
        x.borrow(4);
        x.tens();
        x.die(2);
        int[] due = {3, 3, 0, 1, 7, 4, 1, 3, 15};
        for (int what = 0; what < due.length; what++) {
            Due.is("6 about(" + what + ")", x.about(what), due[what]);
        }
        Due.is("6 about(-1)", x.about(-1), BAD);
        Due.is("6 about(9)", x.about(9), BAD);
        Due.is("6 about(least)", x.about(Integer.MIN_VALUE), BAD);
    }

    private static void person() {
        EntailedLand x = Due.land("T00P009P017P016P105");
        int[][] due = {{NONE, 0, 9, 1, 6}, {0, 1, 7, 1, 8}, {0, 1, 6, 1, 0}, {1, 0, 5, 1, 0}};
        for (int p = 0; p < due.length; p++) {
            for (int what = 0; what < 5; what++) {
                Due.is("7 person(" + p + ", " + what + ")", x.person(p, what), due[p][what]);
            }
            Due.is("7 what", x.person(p, 5), BAD);
            Due.is("7 what", x.person(p, -1), BAD);
        }
        Due.is("7 nobody there", x.person(4, 0), UNKNOWN);
        Due.is("7 UNKNOWN is told ahead of BAD", x.person(4, 9), UNKNOWN);
        for (int p : NOBODY) {
            Due.is("7 person(" + p + ")", x.person(p, 0), UNKNOWN);
        }
        x.die(1);
        x.tens();
        Due.is("7 does not live", x.person(1, 3), 0);
        Due.is("7 grows older, also who does not live", x.person(1, 2), 8);
        Due.is("7 a child that does not live", x.person(0, 4), 6);
        Due.is("7 a child of who does not live", x.person(1, 4), 8);
    }

    private static void die() {
        EntailedLand x = Due.land(FAMILY);
        for (int p : NOBODY) {
            Due.is("8 die(" + p + ")", x.die(p), UNKNOWN);
        }
        x.borrow(5);
        Due.is("8 not the holder", x.die(3), 0);
        Due.is("8 loans stay", x.about(5), 5);
        Due.is("8 twice", x.die(3), LATE);
        Due.is("8 acts", x.about(7), 2);
        Due.is("8 the holder", x.die(0), 2);
        Due.is("8 loans are none", x.about(5), 0);
        Due.is("8 lives", x.about(1), 0b1110110);
        Due.is("8 his son", x.die(2), 6);
        x.borrow(2);
        Due.is("8 the last of the sons", x.die(6), NONE);
        Due.is("8 loans are none", x.about(5), 0);
        Due.is("8 no holder", x.about(2), NONE);
        Due.is("8 daughters live", x.about(1), 0b0110010);
        Due.is("8 nobody holds", x.die(4), NONE);
        EntailedLand y = Due.land("T20P009P008P105P014");
        Due.is("8 daughters first", y.die(0), 3);
        Due.is("8 back to the brother", y.die(3), 1);
        EntailedLand z = Due.land("T10P009P008P105");
        z.die(1);
        Due.is("8 a grandson", z.die(0), 2);
        EntailedLand w = Due.land("T10P009P008P105");
        w.die(0);
        w.die(1);
        Due.is("8 nobody is left", w.die(2), NONE);
    }

    private static void bear() {
        EntailedLand x = Due.land("T00P009P005");
        Due.is("9 parent", x.bear(2, 0), UNKNOWN);
        Due.is("9 parent ahead of woman", x.bear(-1, 2), UNKNOWN);
        Due.is("9 woman", x.bear(0, 2), BAD);
        Due.is("9 woman", x.bear(0, -1), BAD);
        x.tens();
        Due.is("9 born", x.bear(1, 1), 2);
        Due.is("9 parent", x.person(2, 0), 1);
        Due.is("9 woman", x.person(2, 1), 1);
        Due.is("9 age", x.person(2, 2), 0);
        Due.is("9 lives", x.person(2, 3), 1);
        Due.is("9 children", x.person(1, 4), 4);
        x.die(1);
        Due.is("9 of who does not live", x.bear(1, 0), LATE);
        Due.is("9 BAD ahead of LATE", x.bear(1, 2), BAD);
        for (int k = 3; k < 7; k++) {
            Due.is("9 born", x.bear(0, 0), k);
        }
        Due.is("9 seven", x.bear(0, 0), FULL);
        Due.is("9 LATE ahead of FULL", x.bear(1, 0), LATE);
        Due.is("9 people", x.about(0), 7);
        Due.is("9 acts", x.about(7), 7);
        EntailedLand y = Due.land("T10P009P000");
        y.bear(0, 0);
        Due.is("9 of one age the lesser number is older", y.heir(0, 1), 1);
        Due.is("9 of one age the greater number is younger", y.heir(0, 3), 2);
        EntailedLand z = Due.land("T00P019");
        Due.is("9 nobody holds", z.die(0), NONE);
        Due.is("9 none lives", z.bear(0, 0), LATE);
    }

    private static void cut() {
        EntailedLand x = Due.land("T06P009");
        Due.is("10 cut(0)", x.cut(0), BAD);
        Due.is("10 cut(10)", x.cut(10), BAD);
        Due.is("10 cut(-1)", x.cut(-1), BAD);
        Due.is("10 cut(7)", x.cut(7), LATE);
        Due.is("10 cut(4)", x.cut(4), 2);
        Due.is("10 cut(3)", x.cut(3), LATE);
        Due.is("10 cut(2)", x.cut(2), 0);
        Due.is("10 acts", x.about(7), 2);
        EntailedLand y = Due.land("T09P009");
        y.die(0);
        Due.is("10 no holder", y.cut(1), LATE);
        Due.is("10 BAD ahead of LATE", y.cut(0), BAD);
        Due.is("10 nobody", Due.land("T09").cut(9), LATE);
        Due.is("10 all", Due.land("T09P000").cut(9), 0);
    }

    private static void borrow() {
        EntailedLand x = Due.land("T00P009");
        Due.is("11 borrow(0)", x.borrow(0), BAD);
        Due.is("11 borrow(10)", x.borrow(10), BAD);
        Due.is("11 borrow(greatest)", x.borrow(Integer.MAX_VALUE), BAD);
        Due.is("11 borrow(4)", x.borrow(4), 4);
        Due.is("11 borrow(6)", x.borrow(6), LATE);
        Due.is("11 borrow(5)", x.borrow(5), 9);
        Due.is("11 borrow(1)", x.borrow(1), LATE);
        Due.is("11 acts", x.about(7), 2);
        x.die(0);
        Due.is("11 no holder", x.borrow(1), LATE);
        Due.is("11 nobody", Due.land("T00").borrow(1), LATE);
        Due.is("11 nine at once", Due.land("T00P000").borrow(9), 9);
    }

    private static void breakTie() {
        EntailedLand x = Due.land("T00P009P001");
        for (int tie : NO_TIE) {
            Due.is("12 breakTie(" + tie + ")", x.breakTie(tie), BAD);
        }
        Due.is("12 the heir is 10 years old", x.breakTie(1), LATE);
        x.tens();
        Due.is("12 it is that", x.breakTie(0), LATE);
        Due.is("12 the heir is 20 years old", x.breakTie(2), 0);
        Due.is("12 tie", x.about(3), 2);
        Due.is("12 tied again", x.breakTie(0), 2);
        Due.is("12 acts", x.about(7), 3);
        EntailedLand y = Due.land("T00P009P018P006");
        y.die(2);
        Due.is("12 no heir by sons", y.breakTie(1), LATE);
        EntailedLand z = Due.land("T10P009P007P105");
        z.die(1);
        Due.is("12 the heir is a grandson", z.breakTie(2), LATE);
        EntailedLand w = Due.land("T10P009P007P006");
        w.die(0);
        Due.is("12 the heir is a brother", w.breakTie(2), LATE);
        EntailedLand v = Due.land("T30P009P005P001");
        Due.is("12 the youngest is not of age", v.breakTie(1), LATE);
        Due.is("12 nobody", Due.land("T00").breakTie(1), LATE);
    }

    private static void tens() {
        EntailedLand x = new EntailedLand();
        Due.is("13 with nobody", x.tens(), 1);
        Due.is("13 timber", x.about(4), 1);
        EntailedLand y = Due.land("T08P009P000");
        y.die(1);
        Due.is("13 tens", y.tens(), 1);
        Due.is("13 timber", y.about(4), 9);
        Due.is("13 tens", y.tens(), 2);
        Due.is("13 timber is 9 at most", y.about(4), 9);
        Due.is("13 older", y.person(0, 2), 11);
        Due.is("13 older", y.person(1, 2), 2);
        Due.is("13 acts", y.about(7), 3);
    }

    private static void undo() {
        Due.is("14 none", new EntailedLand().undo(), LATE);
        EntailedLand x = Due.land("T04P009P005P014");
        Object[] states = new Object[8];
        states[0] = Due.state(x);
        x.cut(3);
        states[1] = Due.state(x);
        x.borrow(7);
        states[2] = Due.state(x);
        x.breakTie(1);
        states[3] = Due.state(x);
        x.bear(2, 1);
        states[4] = Due.state(x);
        x.tens();
        states[5] = Due.state(x);
        x.die(0);
        states[6] = Due.state(x);
        x.die(2);
        Due.is("14 refused ones are no acts", x.die(2), LATE);
        Due.is("14 refused ones are no acts", x.cut(9), LATE);
        for (int k = 6; k >= 0; k--) {
            Due.is("14 undo", x.undo(), k);
            Due.holds("14 as it was, " + k, states[k].equals(Due.state(x)));
        }
        Due.is("14 none is left", x.undo(), LATE);
        x.tens();
        x.undo();
        Due.is("14 another act behind an undone one", x.cut(1), 3);
        Due.is("14 acts", x.about(7), 1);
        EntailedLand y = Due.land("T00P000");
        for (int k = 0; k < 40; k++) {
            y.tens();
        }
        for (int k = 13; k >= 0; k--) {
            Due.is("14 of a full row", y.undo(), k);
            Due.is("14 time", y.about(6), 26 + k);
        }
        Due.is("14 the first ones are forgotten", y.undo(), LATE);
        y.seed(4);
        y.tens();
        y.seed(6);
        y.undo();
        Due.is("14 the seed stays", y.seed(0), 6);
    }

    private static void heir() {
        EntailedLand x = Due.land(FAMILY);
        for (int tie : NO_TIE) {
            Due.is("15 heir by " + tie, x.heir(0, tie), BAD);
        }
        for (int p : NOBODY) {
            Due.is("15 heir of " + p, x.heir(p, 0), UNKNOWN);
            Due.is("15 UNKNOWN is told ahead of BAD", x.heir(p, 4), UNKNOWN);
        }
        int[][] due = {{2, 2, 1, 3}, {0, 5, 5, 4}, {6, 6, 6, 6}, {0, 0, 0, 0}, {0, 1, 1, 1}, {0, 1, 1, 1}, {2, 2, 2, 2}};
        for (int p = 0; p < 7; p++) {
            for (int tie = 0; tie < 4; tie++) {
                Due.is("15 heir(" + p + ", " + tie + ")", x.heir(p, tie), due[p][tie]);
            }
        }
        x.die(0);
        x.die(2);
        Due.is("15 a nephew, by all", x.heir(3, 1), 6);
        Due.is("15 a sister, daughters first", x.heir(3, 2), 1);
        Due.is("15 of who does not live", x.heir(2, 0), 6);
        x.die(6);
        Due.is("15 of a line that died out", x.heir(2, 0), 3);
        x.die(3);
        Due.is("15 none by sons", x.heir(2, 0), NONE);
        heirOfWomen();
        heirOfOneAge();
    }

    // The LINES of her children are asked, not her own: her sons stand in them.
    private static void heirOfWomen() {
        EntailedLand x = Due.land("T00P019P005P015P204P204");
        Due.is("15 sons of a woman", x.heir(0, 0), 1);
        Due.is("15 sons of a woman", x.heir(2, 0), 3);
        Due.is("15 over the mother, who is in no line", x.heir(3, 0), NONE);
        Due.is("15 the mother by all", x.heir(3, 1), 2);
        EntailedLand y = Due.land("T00P009P018P105P105P004");
        Due.is("15 over the mother to her father", y.heir(2, 0), 0);
        y.die(0);
        Due.is("15 over the mother to her brother", y.heir(2, 0), 4);
        Due.is("15 a woman ahead of her brother", y.heir(1, 0), 2);
        y.die(2);
        y.die(3);
        Due.is("15 her brother", y.heir(1, 0), 4);
    }

    private static void heirOfOneAge() {
        EntailedLand x = Due.land("T00P009P014P004P014P004");
        Due.is("15 one age by sons", x.heir(0, 0), 2);
        Due.is("15 one age by all", x.heir(0, 1), 1);
        Due.is("15 one age by daughters", x.heir(0, 2), 1);
        Due.is("15 one age by the youngest", x.heir(0, 3), 4);
        EntailedLand y = Due.land("T00P009P004P013P015P006");
        Due.is("15 the older man", y.heir(0, 0), 4);
        Due.is("15 the older one", y.heir(0, 1), 4);
        Due.is("15 the older woman", y.heir(0, 2), 3);
        Due.is("15 the youngest", y.heir(0, 3), 2);
    }

    private static void line() {
        EntailedLand x = Due.land(FAMILY);
        int[][] lines = {{0, 2, 6, 3}, {0, 2, 6, 1, 5, 4, 3}, {0, 1, 5, 4, 2, 6, 3}, {0, 3, 1, 4, 5, 2, 6}};
        for (int tie = 0; tie < 4; tie++) {
            linesAre(x, 0, tie, lines[tie]);
        }
        x.die(0);
        x.die(2);
        linesAre(x, 0, 1, lines[1]);
        linesAre(x, 1, 0);
        linesAre(x, 1, 3, 1, 4, 5);
        linesAre(x, 2, 0, 2, 6);
        linesAre(x, 4, 0);
        linesAre(x, 4, 2, 4);
        for (int p : NOBODY) {
            Due.is("16 line of " + p, x.line(p, 0, 0), UNKNOWN);
            Due.is("16 other " + p, x.line(0, p, 0), UNKNOWN);
            Due.is("16 UNKNOWN is told ahead of BAD", x.line(0, p, 4), UNKNOWN);
        }
        for (int tie : NO_TIE) {
            Due.is("16 tie " + tie, x.line(0, 0, tie), BAD);
        }
        linesAre(Due.land("T00P009P008P107P206P305P404P503"), 0, 0, 0, 1, 2, 3, 4, 5, 6);
        linesAre(Due.land("T00P009P018P107"), 0, 0, 0);
    }

    private static void linesAre(EntailedLand x, int person, int tie, int... row) {
        for (int other = 0; other < x.about(0); other++) {
            int place = NONE;
            for (int k = 0; k < row.length; k++) {
                if (row[k] == other) {
                    place = k;
                }
            }
            Due.is("16 line(" + person + ", " + other + ", " + tie + ")", x.line(person, other, tie), place);
        }
    }

    private static void next() {
        EntailedLand x = Due.land(FAMILY);
        int[] due = {1374, 1372654, 1265374, 1425637};
        for (int tie = 0; tie < 4; tie++) {
            Due.is("17 next(" + tie + ")", x.next(tie), due[tie]);
        }
        x.die(2);
        Due.is("17 who lives", x.next(0), 174);
        x.die(0);
        Due.is("17 another holder", x.next(1), 72654);
        x.die(6);
        x.die(3);
        Due.is("17 no holder", x.next(1), 0);
        Due.is("17 nobody", new EntailedLand().next(3), 0);
        for (int tie : NO_TIE) {
            Due.is("17 tie " + tie, x.next(tie), BAD);
        }
    }

    private static void ever() {
        EntailedLand x = Due.land(FAMILY);
        Due.is("18 sons", x.ever(0), 0b1001101);
        Due.is("18 all", x.ever(1), 0b1111111);
        x.die(2);
        x.die(5);
        Due.is("18 who lives", x.ever(0), 0b1001001);
        Due.is("18 who lives", x.ever(3), 0b1011011);
        x.die(0);
        Due.is("18 the holder too", x.ever(0), 0b1001000);
        Due.is("18 nobody", new EntailedLand().ever(0), 0);
        for (int tie : NO_TIE) {
            Due.is("18 tie " + tie, x.ever(tie), BAD);
        }
        EntailedLand y = Due.land("T00P009P018P105");
        Due.is("18 cut off behind a woman", y.ever(0), 1);
        Due.is("18 by daughters", y.ever(2), 7);
        y.die(0);
        Due.is("18 no holder", y.ever(1), 0);
    }

    private static void best() {
        EntailedLand x = Due.land("T05P009");
        Due.is("19 one ten", x.best(1, false, false), 3);
        Due.is("19 one ten", x.best(1, false, true), 13);
        Due.is("19 two tens", x.best(2, false, false), 6);
        Due.is("19 two tens", x.best(2, false, true), 133);
        Due.is("19 three tens", x.best(3, false, false), 7);
        Due.is("19 three tens", x.best(3, false, true), 1133);
        Due.is("19 four tens", x.best(4, false, false), 8);
        Due.is("19 four tens", x.best(4, false, true), 10233);
        Due.is("19 his own", x.best(4, true, false), 18);
        Due.is("19 his own", x.best(4, true, true), 10000);
        Due.is("19 n", x.best(0, true, true), BAD);
        Due.is("19 n", x.best(5, true, true), BAD);
        Due.is("19 n", x.best(-1, false, false), BAD);
        EntailedLand y = Due.land("T09P009");
        Due.is("19 what cannot grow is cut", y.best(1, true, true), 11);
        Due.is("19 9 at most", y.best(1, true, false), 19);
        Due.is("19 each ten", y.best(2, true, false), 20);
        Due.is("19 the least row", y.best(2, true, true), 111);
        Due.is("19 four tens", y.best(4, false, false), 12);
        Due.is("19 four tens", y.best(4, false, true), 13333);
        EntailedLand z = Due.land("T00P009");
        Due.is("19 nothing to cut", z.best(1, false, false), 0);
        Due.is("19 nothing to cut", z.best(1, false, true), 10);
        Due.is("19 what grew", z.best(4, false, false), 3);
        Due.is("19 at the end", z.best(4, false, true), 10003);
        Due.is("19 timber stays", z.about(4), 0);
        z.die(0);
        Due.is("19 no holder", z.best(2, false, false), LATE);
        Due.is("19 BAD ahead of LATE", z.best(5, false, false), BAD);
    }

    private static void ties() {
        EntailedLand x = Due.land(FAMILY);
        Due.is("20 the holder dies", x.ties(1, 1, 2), 0b0011);
        Due.is("20 the holder dies", x.ties(1, 1, 1), 0b0100);
        Due.is("20 the holder dies", x.ties(1, 1, 3), 0b1000);
        Due.is("20 the holder dies", x.ties(1, 1, 0), 0);
        Due.is("20 the holder lives", x.ties(2, 32, 0), 0b1111);
        Due.is("20 the first figure first", x.ties(2, 31, 6), 0b0011);
        Due.is("20 and the other way", x.ties(2, 13, 6), 0b0011);
        Due.is("20 four", x.ties(4, 1374, 1), 0b1110);
        Due.is("20 four", x.ties(4, 1253, 6), 0b0011);
        Due.is("20 four", x.ties(4, 1253, 5), 0b0100);
        Due.is("20 four", x.ties(4, 1253, 3), 0b1000);
        Due.is("20 the tie is not changed", x.about(3), 0);
        Due.is("20 all live", x.about(1), 127);
        Due.is("20 n", x.ties(0, 1, 0), BAD);
        Due.is("20 n", x.ties(5, 12345, 0), BAD);
        Due.is("20 too few figures", x.ties(2, 1, 0), BAD);
        Due.is("20 too many figures", x.ties(1, 12, 0), BAD);
        Due.is("20 too many figures", x.ties(4, 12345, 0), BAD);
        Due.is("20 a figure 0", x.ties(2, 10, 0), BAD);
        Due.is("20 a figure 0", x.ties(3, 102, 0), BAD);
        Due.is("20 nobody", x.ties(1, 8, 0), BAD);
        Due.is("20 nobody", x.ties(2, 19, 0), BAD);
        Due.is("20 twice", x.ties(3, 121, 0), BAD);
        Due.is("20 below 0", x.ties(1, -1, 0), BAD);
        Due.is("20 least", x.ties(4, Integer.MIN_VALUE, 0), BAD);
        Due.is("20 BAD is told ahead of UNKNOWN", x.ties(1, 8, 9), BAD);
        for (int p : NOBODY) {
            Due.is("20 person " + p, x.ties(1, 1, p), UNKNOWN);
        }
        x.die(2);
        Due.is("20 who does not live", x.ties(1, 3, 0), BAD);
        Due.is("20 does not live, is nobody's heir", x.ties(1, 1, 2), 0);
        EntailedLand y = Due.land("T00P009P018");
        y.die(0);
        Due.is("20 no holder", y.ties(1, 2, 1), 0);
    }

    private static void rests() {
        EntailedLand x = Due.land("T00P009P002");
        for (int w = 0; w < 10; w++) {
            Due.is("21 rests(" + w + ", 0)", x.rests(w, 0), restsOf(w));
            Due.is("21 the first one, " + w, x.rests(w, 1), 0);
        }
        Due.is("21 five", x.rests(5, 0), 5);
        Due.is("21 six", x.rests(4, 0), 6);
        Due.is("21 five of nothing", x.rests(0, 0), 5);
        Due.is("21 w", x.rests(-1, 0), BAD);
        Due.is("21 w", x.rests(10, 0), BAD);
        Due.is("21 what", x.rests(0, -1), BAD);
        Due.is("21 what", x.rests(0, 2), BAD);
        EntailedLand y = Due.land("T00P009P001");
        Due.is("21 not of age", y.rests(5, 0), LATE);
        Due.is("21 BAD ahead of LATE", y.rests(10, 0), BAD);
        y.tens();
        Due.is("21 of age", y.rests(5, 0), 5);
        y.die(1);
        Due.is("21 no heir", y.rests(5, 1), LATE);
        EntailedLand z = Due.land("T10P009P007P105");
        z.die(1);
        Due.is("21 a grandson", z.rests(5, 0), LATE);
    }

    private static int restsOf(int w) {
        int count = 0;
        for (int pair = 0; pair < 25; pair++) {
            int a = pair / 5;
            int b = pair % 5;
            boolean rest = true;
            for (int k = 0; k < 5; k++) {
                rest &= (b >= k ? b : 0) <= (b >= a ? b : 0);
                rest &= (k >= a ? w - k : 0) <= (b >= a ? w - b : 0);
            }
            count += rest ? 1 : 0;
        }
        return count;
    }

    private static void odds() {
        EntailedLand x = Due.land("T10P009P005P003");
        oddsAre(x, 0, 1, 1);
        oddsAre(x, 1, 1, 2);
        // 2 holds behind 0, if 1 died ahead, or behind 1: it must outlive both.
        oddsAre(x, 2, 1, 3);
        for (int p : NOBODY) {
            Due.is("22 odds of " + p, x.odds(p, true), UNKNOWN);
        }
        Due.is("22 nobody there", x.odds(3, false), UNKNOWN);
        x.die(1);
        oddsAre(x, 1, 0, 1);
        oddsAre(x, 2, 1, 2);
        EntailedLand y = Due.land("T00P009P018");
        oddsAre(y, 1, 0, 1);
        y.die(0);
        oddsAre(y, 1, 0, 1);
        EntailedLand z = Due.land("T30P009P008P107P206P305P404P503");
        oddsAre(z, 6, 1, 7);
        oddsAre(z, 1, 1, 2);
        // The holder is one of two brothers: the other one must outlive him.
        EntailedLand w = Due.land("T10P009P005P004");
        w.die(0);
        oddsAre(w, 2, 1, 2);
        oddsAre(w, 1, 1, 1);
    }

    private static void oddsAre(EntailedLand x, int person, int above, int below) {
        Due.is("22 odds(" + person + ") above", x.odds(person, true), above);
        Due.is("22 odds(" + person + ") below", x.odds(person, false), below);
    }

    private static void lender() {
        EntailedLand x = Due.land("T00P003P001");
        lenderIs(x, 1, 0, 7, 10);
        lenderIs(x, 1, 2, 1, 2);
        lenderIs(x, 1, 6, 1, 10);
        lenderIs(x, 1, 7, 0, 1);
        lenderIs(x, 1, 9, 0, 1);
        lenderIs(x, 2, 0, 21, 50);
        lenderIs(x, 5, 0, 63, 2500);
        lenderIs(x, 5, 1, 9, 1250);
        lenderIs(x, 5, 2, 3, 2500);
        lenderIs(x, 5, 3, 0, 1);
        Due.is("23 n", x.lender(0, 0, true), BAD);
        Due.is("23 n", x.lender(6, 0, true), BAD);
        Due.is("23 x", x.lender(1, -1, true), BAD);
        Due.is("23 x", x.lender(1, 10, false), BAD);
        x.die(0);
        lenderIs(x, 1, 0, 9, 10);
        for (int k = 0; k < 20; k++) {
            x.tens();
        }
        lenderIs(x, 5, 0, 0, 1);
        x.die(1);
        lenderIs(x, 3, 3, 0, 1);
        Due.is("23 BAD ahead of no holder", x.lender(6, 3, true), BAD);
        lenderIs(Due.land("T00P000"), 1, 0, 1, 1);
        lenderIs(Due.land("T00P000"), 5, 0, 189, 625);
    }

    private static void lenderIs(EntailedLand x, int n, int more, int above, int below) {
        Due.is("23 lender(" + n + ", " + more + ") above", x.lender(n, more, true), above);
        Due.is("23 lender(" + n + ", " + more + ") below", x.lender(n, more, false), below);
    }

    private static void seed() {
        EntailedLand x = new EntailedLand();
        Due.is("24 at first", x.seed(Long.MIN_VALUE), 0);
        Due.is("24 then", x.seed(Long.MAX_VALUE), Long.MIN_VALUE);
        Due.is("24 then", x.seed(-1), Long.MAX_VALUE);
        Due.is("24 then", x.seed(0), -1);
        Due.is("24 no act", x.about(7), 0);
    }

    private static void families() {
        EntailedLand x = Due.land("T10P009P005P003");
        Due.is("25 m", x.families(0), BAD);
        Due.is("25 m", x.families(21), BAD);
        Due.is("25 m", x.families(-1), BAD);
        Due.is("25 what is refused changes nothing", x.seed(0), 0);
        List<Integer> before = Due.state(x);
        long s = 0;
        for (int start = 0; start < 40; start++) {
            s = start * 1234567891011L - 99;
            x.seed(s);
            int[] living = {1, 1, 1};
            int holder = 0;
            int due = 0;
            for (int k = 0; k < 20; k++) {
                s = s * 6364136223846793005L + 1442695040888963407L;
                int p = (int) ((s >>> 33) % 10);
                if (p < 3) {
                    living[p] = 0;
                }
                int then = holder == 3 || living[holder] == 1 ? holder
                        : living[0] == 1 ? 0 : living[1] == 1 ? 1 : living[2] == 1 ? 2 : 3;
                due += then != holder ? 1 : 0;
                holder = then;
            }
            Due.is("25 families(20) from " + start, x.families(20), due);
            Due.is("25 the seed then", x.seed(0), s);
        }
        Due.holds("25 nothing changes but the seed", before.equals(Due.state(x)));
        EntailedLand y = new EntailedLand();
        Due.is("25 nobody", y.families(1), 0);
        Due.is("25 the seed goes on", y.seed(0), 1442695040888963407L);
    }

    private static void keep() {
        EntailedLand x = new EntailedLand();
        Due.is("26 slot", x.keep(-1), UNKNOWN);
        Due.is("26 slot", x.keep(2), UNKNOWN);
        Due.is("26 nobody", x.keep(0), 0);
        EntailedLand y = Due.land("T12P009P005");
        y.tens();
        y.tens();
        Due.is("26 the time", y.keep(1), 2);
        Due.is("26 no act", y.about(7), 2);
        Due.is("26 undone behind it", y.undo(), 1);
        Due.is("26 kept anew", y.keep(1), 1);
        y.undo();
        Due.is("26 as kept last", y.again(1), 1);
    }

    private static void again() {
        EntailedLand x = Due.land("T05P009P005P014");
        Due.is("27 slot", x.again(-1), UNKNOWN);
        Due.is("27 slot", x.again(2), UNKNOWN);
        Due.is("27 none", x.again(0), LATE);
        x.tens();
        x.borrow(3);
        x.bear(1, 1);
        x.keep(0);
        List<Integer> before = Due.state(x);
        Due.is("27 the other slot", x.again(1), LATE);
        x.breakTie(1);
        x.cut(2);
        x.die(3);
        x.die(0);
        x.bear(1, 0);
        x.tens();
        x.seed(8);
        x.keep(1);
        for (int k = 0; k < 2; k++) {
            Due.is("27 again(0)", x.again(0), 1);
            Due.is("27 no acts", x.about(7), 0);
            Due.is("27 none to undo", x.undo(), LATE);
            List<Integer> then = Due.state(x);
            then.set(7, before.get(7));
            Due.holds("27 as it was", before.equals(then));
            x.die(1);
            x.tens();
        }
        Due.is("27 the seed stays", x.seed(0), 8);
        Due.is("27 the text stays", x.about(8), 15);
        Due.is("27 the other one", x.again(1), 2);
        Due.is("27 holder", x.about(2), 1);
        Due.is("27 tie", x.about(3), 1);
        Due.is("27 people", x.about(0), 5);
    }
}
