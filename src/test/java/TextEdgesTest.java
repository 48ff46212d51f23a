import java.util.List;

/** The edges that the document names of THE TEXT and THE LAND, promises 1 to 7: a test for each sentence. */
public final class TextEdgesTest {
    private static final int UNKNOWN = -1, BAD = -2, LATE = -3, FULL = -4, NONE = -9;

    /** Seven PEOPLE in one chain: the longest LAND there is. */
    private static final String SEVEN = "T00P009P008P107P206P305P404P503";

    private TextEdgesTest() {
    }

    public static void main(String[] args) {
        atFirst();
        aByte();
        fortyBytes();
        badAheadOfFull();
        wipeTellsHowLong();
        wipeLeavesTheLand();
        tieOfText();
        timberOfText();
        parentToldAhead();
        manOrWoman();
        agesOfText();
        firstByte();
        whateverCameBehind();
        onlyNotAtItsEnd();
        sevenAtMost();
        howManyPeople();
        lateByAFault();
        refusedLandForgetsNothing();
        madeAnew();
        landForgets();
        whatOfAbout();
        holderOrNone();
        whatOfPerson();
        noSuchPerson();
        parentOrNone();
        childrenAsBits();
        oldAsItWas();
        Due.end();
    }

    private static void atFirst() {
        Due.sentence("1, Terms 1: At first TIE, TIMBER are 0, there is nobody");
        EntailedLand x = new EntailedLand();
        Due.about(x, 0, 0, NONE, 0, 0, 0, 0, 0, 0);
        Due.is("person(0, 0)", x.person(0, 0), UNKNOWN);
        Due.is("seed", x.seed(0), 0);
        Due.is("undo", x.undo(), LATE);
        Due.is("again(0)", x.again(0), LATE);
        Due.is("again(1)", x.again(1), LATE);
        Due.is("next(0)", x.next(0), 0);
        Due.is("ever(0)", x.ever(0), 0);
        Due.is("fault of no bytes", x.fault(), 0);
        Due.is("land of no bytes", x.land(), LATE);
    }

    private static void aByte() {
        Due.sentence("2: A byte (0 .. 255); BAD");
        EntailedLand x = new EntailedLand();
        int[] bad = {-1, 256, -256, 257, Integer.MIN_VALUE, Integer.MAX_VALUE, 'T' + 256, 'T' - 256};
        for (int letter : bad) {
            Due.is("write(" + letter + ")", x.write(letter), BAD);
            Due.is("bytes", x.about(8), 0);
        }
        Due.is("write(0)", x.write(0), 1);
        Due.is("write(255)", x.write(255), 2);
        Due.is("write(256) behind", x.write(256), BAD);
        Due.is("write(-1) behind", x.write(-1), BAD);
        Due.is("write(128)", x.write(128), 3);
        Due.is("write(127)", x.write(127), 4);
        for (int letter = 0; letter < 256; letter++) {
            Due.is("write(" + letter + ")", new EntailedLand().write(letter), 1);
        }
    }

    private static void fortyBytes() {
        Due.sentence("2: how long it is; FULL: there are 40");
        EntailedLand x = new EntailedLand();
        for (int k = 1; k <= 40; k++) {
            Due.is("byte " + k, x.write(k <= 31 ? SEVEN.charAt(k - 1) : 'P'), k);
            Due.is("bytes", x.about(8), k);
        }
        for (int k = 0; k < 3; k++) {
            Due.is("the 41st", x.write('T'), FULL);
            Due.is("bytes", x.about(8), 40);
        }
        Due.is("as it was", x.fault(), 31);
        Due.is("wipe", x.wipe(), 40);
        Due.is("then there is room", x.write('T'), 1);
    }

    private static void badAheadOfFull() {
        Due.sentence("2, Terms 4: Of several what is told first: BAD; FULL");
        EntailedLand x = new EntailedLand();
        for (int k = 0; k < 40; k++) {
            x.write('T');
        }
        Due.is("write(256)", x.write(256), BAD);
        Due.is("write(-1)", x.write(-1), BAD);
        Due.is("write(255)", x.write(255), FULL);
        Due.is("write(0)", x.write(0), FULL);
    }

    private static void wipeTellsHowLong() {
        Due.sentence("3: THE TEXT is empty: how long it was");
        EntailedLand x = new EntailedLand();
        Due.is("of none", x.wipe(), 0);
        x.write('T');
        Due.is("of one", x.wipe(), 1);
        Due.is("once more", x.wipe(), 0);
        Due.is("bytes", x.about(8), 0);
        Due.is("fault", x.fault(), 0);
        Due.tell(x, "T");
        Due.is("what was wiped is not there", x.fault(), 1);
        x.wipe();
        for (int k = 0; k < 41; k++) {
            x.write('T');
        }
        Due.is("of 40", x.wipe(), 40);
        Due.tell(x, SEVEN);
        Due.is("another text", x.fault(), NONE);
    }

    private static void wipeLeavesTheLand() {
        Due.sentence("3: THE TEXT is empty (and nothing else)");
        EntailedLand x = Due.land("T13P009P014");
        x.seed(5);
        x.keep(1);
        x.tens();
        List<Integer> before = Due.state(x);
        x.wipe();
        Due.holds("the land stays", before.equals(Due.state(x)));
        Due.is("the seed stays", x.seed(5), 5);
        Due.is("acts stay", x.undo(), 0);
        Due.is("what was kept stays", x.again(1), 0);
    }

    private static void tieOfText() {
        Due.sentence("Terms 1: TIE (0 .. 3)");
        for (int tie = 0; tie <= 3; tie++) {
            Due.is("tie " + tie, Due.land("T" + tie + "0").about(3), tie);
        }
        faultOf("T/0", 1);
        faultOf("T40", 1);
        faultOf("T90", 1);
    }

    private static void timberOfText() {
        Due.sentence("Terms 1: TIMBER (0 .. 9)");
        for (int timber = 0; timber <= 9; timber++) {
            Due.is("timber " + timber, Due.land("T0" + timber).about(4), timber);
        }
        faultOf("T0/", 2);
        faultOf("T0:", 2);
    }

    private static void parentToldAhead() {
        Due.sentence("Terms 1: whose parent is PERSON p (told ahead; the first one's is told as 0: it has none)");
        faultOf("T00P000", NONE);
        faultOf("T00P100", 4);
        faultOf("T00P/00", 4);
        StringBuilder text = new StringBuilder("T00P000");
        for (int k = 1; k < 7; k++) {
            for (int parent = 0; parent <= 9; parent++) {
                String told = text + "P" + parent + "00";
                faultOf(told, parent < k ? NONE : 4 + 4 * k);
                if (parent < k) {
                    Due.is("parent in " + told, Due.land(told).person(k, 0), parent);
                }
            }
            faultOf(text + "P/00", 4 + 4 * k);
            text.append("P").append(k - 1).append("00");
        }
        Due.is("the first one's", Due.land("T00P000").person(0, 0), NONE);
    }

    private static void manOrWoman() {
        Due.sentence("Terms 1: s 0: a man, 1: a woman");
        Due.is("a man", Due.land("T00P000").person(0, 1), 0);
        Due.is("a woman", Due.land("T00P010").person(0, 1), 1);
        faultOf("T00P020", 5);
        faultOf("T00P0/0", 5);
        faultOf("T00P000P020", 9);
    }

    private static void agesOfText() {
        Due.sentence("Terms 1: a (0 .. 9) tens of years old");
        for (int age = 0; age <= 9; age++) {
            Due.is("age " + age, Due.land("T00P00" + age).person(0, 2), age);
        }
        faultOf("T00P00/", 6);
        faultOf("T00P00:", 6);
        faultOf("T00P000P01:", 10);
    }

    /** Each byte 0 .. 255 at each place of a LAND: it may stand there, or it is the FAULT. */
    private static void firstByte() {
        Due.sentence("4, Terms 1: the place of the first byte by which THE TEXT can be no LAND");
        for (int place = 0; place <= SEVEN.length(); place++) {
            String may = mayStand(place);
            for (int letter = 0; letter < 256; letter++) {
                EntailedLand x = new EntailedLand();
                for (int k = 0; k < place; k++) {
                    x.write(SEVEN.charAt(k));
                }
                x.write(letter);
                boolean whole = place >= 2 && (place - 2) % 4 == 0;
                int due = may.indexOf(letter) < 0 ? place : whole ? NONE : place + 1;
                Due.is("fault of " + letter + " at " + place, x.fault(), due);
            }
        }
    }

    private static String mayStand(int place) {
        if (place < 3) {
            return new String[] {"T", "0123", "0123456789"}[place];
        }
        int person = (place - 3) / 4;
        String ahead = person == 0 ? "0" : "012345".substring(0, Math.min(person, 6));
        return person == 7 ? "" : new String[] {"P", ahead, "01", "0123456789"}[(place - 3) % 4];
    }

    private static void whateverCameBehind() {
        Due.sentence("4, Terms 1: whatever came behind it");
        for (int place = 0; place < SEVEN.length(); place++) {
            String text = SEVEN.substring(0, place) + "x" + SEVEN.substring(place + 1);
            faultOf(text.substring(0, place + 1), place);
            faultOf(text, place);
            faultOf(text + "P000", place);
        }
        faultOf("xyz", 0);
        faultOf("T4P000", 1);
    }

    private static void onlyNotAtItsEnd() {
        Due.sentence("4, Terms 1: its length, if it is only not at its end; NONE: none");
        for (int length = 0; length <= SEVEN.length(); length++) {
            boolean atEnd = length >= 3 && (length - 3) % 4 == 0;
            faultOf(SEVEN.substring(0, length), atEnd ? NONE : length);
        }
    }

    private static void sevenAtMost() {
        Due.sentence("Terms 1: PEOPLE are 0, 1, .. (7 at most); THE TEXT is bytes (40 at most)");
        faultOf(SEVEN, NONE);
        faultOf(SEVEN + "P", 31);
        faultOf(SEVEN + "T", 31);
        faultOf(SEVEN + "P000", 31);
        faultOf(SEVEN + "P000P0000", 31);
        faultOf(SEVEN.substring(0, 30) + ":P000P0000", 30);
    }

    private static void faultOf(String text, int due) {
        EntailedLand x = new EntailedLand();
        Due.tell(x, text);
        Due.is("fault of " + text, x.fault(), due);
        Due.is("fault of " + text + " once more", x.fault(), due);
        Due.is("land of " + text, x.land(), due == NONE ? (text.length() - 3) / 4 : LATE);
    }

    private static void howManyPeople() {
        Due.sentence("5: how many PEOPLE; Terms 1: PEOPLE, none or more");
        for (int people = 0; people <= 7; people++) {
            EntailedLand x = Due.land(SEVEN.substring(0, 3 + 4 * people));
            Due.about(x, people, (1 << people) - 1, people == 0 ? NONE : 0);
            Due.is("the last one", x.person(people - 1, 3), people == 0 ? UNKNOWN : 1);
            Due.is("one behind", x.person(people, 3), UNKNOWN);
        }
    }

    private static void lateByAFault() {
        Due.sentence("5: LATE: a FAULT");
        String[] faulty = {"", "T", "T0", "t00", "T40", "T00P", "T00P00", "T00P100", "T00x", SEVEN + "P"};
        for (String text : faulty) {
            EntailedLand x = new EntailedLand();
            Due.tell(x, text);
            Due.is("land of " + text, x.land(), LATE);
            Due.about(x, 0, 0, NONE, 0, 0, 0, 0, 0, text.length());
        }
        EntailedLand x = new EntailedLand();
        Due.tell(x, "T00P00");
        Due.is("not yet", x.land(), LATE);
        x.write('0');
        Due.is("then", x.land(), 1);
    }

    private static void refusedLandForgetsNothing() {
        Due.sentence("5, Terms 4: What is refused changes nothing");
        EntailedLand x = Due.land("T12P009P014");
        x.keep(0);
        x.seed(77);
        x.borrow(3);
        x.tens();
        List<Integer> before = Due.state(x);
        x.write('P');
        Due.is("land", x.land(), LATE);
        Due.holds("all is as it was", before.equals(Due.state(x)));
        Due.is("bytes", x.about(8), 12);
        Due.is("seed", x.seed(77), 77);
        Due.is("undo", x.undo(), 1);
        Due.is("again(1)", x.again(1), LATE);
        Due.is("again(0)", x.again(0), 0);
    }

    private static void madeAnew() {
        Due.sentence("Terms 1: When THE LAND is made anew, all live, the HOLDER is PERSON 0 (NONE, if there is nobody), "
                + "there are no LOANS, THE TIME is 0");
        EntailedLand x = Due.land("T15P009P004P013");
        x.die(0);
        x.borrow(4);
        x.tens();
        x.bear(1, 1);
        x.cut(3);
        x.breakTie(3);
        Due.is("land", x.land(), 3);
        Due.about(x, 3, 7, 0, 1, 5, 0, 0, 0, 15);
        int[][] due = {{NONE, 0, 9, 1, 6}, {0, 0, 4, 1, 0}, {0, 1, 3, 1, 0}};
        for (int p = 0; p < 3; p++) {
            for (int what = 0; what < 5; what++) {
                Due.is("person(" + p + ", " + what + ")", x.person(p, what), due[p][what]);
            }
        }
        x.borrow(9);
        x.tens();
        Due.tell(x, "T28");
        Due.is("land of nobody", x.land(), 0);
        Due.about(x, 0, 0, NONE, 2, 8, 0, 0, 0, 3);
        Due.is("nobody is left", x.person(0, 3), UNKNOWN);
        Due.tell(x, "T00P010");
        Due.is("land", x.land(), 1);
        Due.about(x, 1, 1, 0, 0, 0, 0, 0, 0, 7);
        Due.is("a woman now", x.person(0, 1), 1);
        Due.tell(x, "T00P000");
        Due.is("land", x.land(), 1);
        Due.is("a man now", x.person(0, 1), 0);
    }

    private static void landForgets() {
        Due.sentence("5: no ACTS; what was kept is gone; THE SEED stays");
        EntailedLand x = Due.land("T15P009");
        x.seed(-3);
        for (int k = 0; k < 20; k++) {
            x.tens();
        }
        x.keep(0);
        x.keep(1);
        Due.is("land", x.land(), 1);
        Due.is("acts", x.about(7), 0);
        Due.is("undo", x.undo(), LATE);
        Due.is("again(0)", x.again(0), LATE);
        Due.is("again(1)", x.again(1), LATE);
        Due.is("seed", x.seed(0), -3);
        x.tens();
        Due.is("the first act then", x.about(7), 1);
        Due.is("undone", x.undo(), 0);
        Due.is("time", x.about(6), 0);
    }

    private static void whatOfAbout() {
        Due.sentence("6: what = 0 .. 8; BAD");
        EntailedLand x = Due.land("T16P009P014P003");
        x.borrow(4);
        x.tens();
        x.die(2);
        Due.about(x, 3, 3, 0, 1, 7, 4, 1, 3, 15);
        int[] bad = {-1, 9, 10, -9, 256, Integer.MIN_VALUE, Integer.MAX_VALUE};
        for (int what : bad) {
            Due.is("about(" + what + ")", x.about(what), BAD);
        }
    }

    private static void holderOrNone() {
        Due.sentence("6: the HOLDER (2; NONE)");
        EntailedLand x = Due.land("T10P009P003");
        Due.is("the first one", x.about(2), 0);
        x.die(0);
        Due.is("its child", x.about(2), 1);
        x.die(1);
        Due.is("none", x.about(2), NONE);
        x.undo();
        Due.is("its child once more", x.about(2), 1);
    }

    private static void whatOfPerson() {
        Due.sentence("7: what = 0 .. 4; BAD");
        EntailedLand x = Due.land("T00P009P017");
        int[][] due = {{NONE, 0, 9, 1, 2}, {0, 1, 7, 1, 0}};
        int[] bad = {-1, 5, 6, Integer.MIN_VALUE, Integer.MAX_VALUE};
        for (int p = 0; p < 2; p++) {
            for (int what = 0; what < 5; what++) {
                Due.is("person(" + p + ", " + what + ")", x.person(p, what), due[p][what]);
            }
            for (int what : bad) {
                Due.is("person(" + p + ", " + what + ")", x.person(p, what), BAD);
            }
        }
    }

    private static void noSuchPerson() {
        Due.sentence("7: UNKNOWN; BAD (and UNKNOWN is told first)");
        EntailedLand x = Due.land("T00P009P017");
        int[] nobody = {-1, 2, 6, 7, 32, 33, -32, Integer.MIN_VALUE, Integer.MAX_VALUE};
        for (int p : nobody) {
            for (int what = -1; what < 6; what++) {
                Due.is("person(" + p + ", " + what + ")", x.person(p, what), UNKNOWN);
            }
        }
        x.bear(0, 0);
        Due.is("who was born", x.person(2, 2), 0);
        x.undo();
        Due.is("and was not", x.person(2, 2), UNKNOWN);
        EntailedLand seven = Due.land(SEVEN);
        Due.is("the last of seven", seven.person(6, 2), 3);
        Due.is("none behind", seven.person(7, 2), UNKNOWN);
    }

    private static void parentOrNone() {
        Due.sentence("7: its parent (what = 0; NONE)");
        EntailedLand x = Due.land(SEVEN);
        for (int p = 0; p < 7; p++) {
            Due.is("person(" + p + ", 0)", x.person(p, 0), p == 0 ? NONE : p - 1);
        }
        x.die(0);
        Due.is("a parent that does not live", x.person(1, 0), 0);
    }

    private static void childrenAsBits() {
        Due.sentence("7: children (4: bits)");
        EntailedLand x = Due.land("T00P009P007P007P007P007P007P007");
        Due.is("six", x.person(0, 4), 0b1111110);
        Due.is("none", x.person(6, 4), 0);
        x.die(6);
        Due.is("also who does not live", x.person(0, 4), 0b1111110);
        EntailedLand y = Due.land("T00P009");
        Due.is("none", y.person(0, 4), 0);
        y.bear(0, 0);
        Due.is("one born", y.person(0, 4), 0b10);
        y.undo();
        Due.is("none", y.person(0, 4), 0);
    }

    private static void oldAsItWas() {
        Due.sentence("7: how old it is, or was (2), 1 if it lives (3)");
        EntailedLand x = Due.land("T00P009P007");
        x.die(1);
        Due.is("lives no more", x.person(1, 3), 0);
        Due.is("lives", x.person(0, 3), 1);
        Due.is("old as it was", x.person(1, 2), 7);
        x.tens();
        Due.is("beyond 9", x.person(0, 2), 10);
        Due.is("also who does not live", x.person(1, 2), 8);
    }
}
