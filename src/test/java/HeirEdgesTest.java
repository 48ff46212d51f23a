/** The edges that the document names of ORDER, LINE, HEIR, NEXT and EVER, promises 15 to 18: a test for each sentence. */
public final class HeirEdgesTest {
    private static final int UNKNOWN = -1, BAD = -2, NONE = -9;
    private static final int[] NOBODY = {-1, -9, 7, 31, 32, -32, Integer.MIN_VALUE, Integer.MAX_VALUE};
    private static final int[] NO_TIE = {-1, 4, 5, Integer.MIN_VALUE, Integer.MAX_VALUE};

    private HeirEdgesTest() {
    }

    public static void main(String[] args) {
        orderOfSons();
        orderOfAll();
        orderOfDaughters();
        orderOfYoungest();
        ageAsItIsNow();
        oneAge();
        lineOfAWoman();
        lineItThenItsChildren();
        lineAlsoWhoDoesNotLive();
        lineNone();
        lineRefused();
        heirInLinesOfChildren();
        heirInLineOfParent();
        heirOfThatOnesParent();
        heirItselfSetAside();
        heirOfAWomanBySons();
        heirNone();
        heirRefused();
        nextNone();
        nextHolders();
        nextBad();
        everNoHolder();
        everWhoLives();
        everBySomeSet();
        everBad();
        Due.end();
    }

    /** The whole LINE of PERSON 0 by a TIE; who is not told here is not in it. */
    private static void lineIs(EntailedLand x, int person, int tie, int... row) {
        for (int other = 0; other < x.about(0); other++) {
            int place = NONE;
            for (int k = 0; k < row.length; k++) {
                place = row[k] == other ? k : place;
            }
            Due.is("line(" + person + ", " + other + ", " + tie + ")", x.line(person, other, tie), place);
        }
    }

    private static void orderOfSons() {
        Due.sentence("Terms 1: 0 SONS: men alone, the older one first");
        lineIs(Due.land("T00P009P004P019P005P018"), 0, 0, 0, 3, 1);
        lineIs(Due.land("T00P009P005P019P004P018"), 0, 0, 0, 1, 3);
        lineIs(Due.land("T00P009P019P018"), 0, 0, 0);
    }

    private static void orderOfAll() {
        Due.sentence("Terms 1: 1 ALL: the older one first");
        lineIs(Due.land("T00P009P004P016P005P017"), 0, 1, 0, 4, 2, 3, 1);
        lineIs(Due.land("T00P009P017P006P015P004"), 0, 1, 0, 1, 2, 3, 4);
    }

    private static void orderOfDaughters() {
        Due.sentence("Terms 1: 2 DAUGHTERS: women first, the older one first, then men likewise");
        lineIs(Due.land("T00P009P008P011P009P012"), 0, 2, 0, 4, 2, 3, 1);
        lineIs(Due.land("T00P009P012P009P011P008"), 0, 2, 0, 1, 3, 2, 4);
        lineIs(Due.land("T00P009P005P006"), 0, 2, 0, 2, 1);
    }

    private static void orderOfYoungest() {
        Due.sentence("Terms 1: 3 YOUNGEST: the younger one first");
        lineIs(Due.land("T00P009P004P016P005P017"), 0, 3, 0, 1, 3, 2, 4);
        lineIs(Due.land("T00P009P017P006P015P004"), 0, 3, 0, 4, 3, 2, 1);
    }

    private static void ageAsItIsNow() {
        Due.sentence("Terms 1: ORDER by AGES (who is born later is younger)");
        EntailedLand x = Due.land("T00P009P000");
        x.bear(0, 0);
        lineIs(x, 0, 1, 0, 1, 2);
        lineIs(x, 0, 3, 0, 2, 1);
        x.tens();
        x.bear(0, 0);
        lineIs(x, 0, 1, 0, 1, 2, 3);
        lineIs(x, 0, 3, 0, 3, 2, 1);
        for (int k = 0; k < 12; k++) {
            x.tens();
        }
        lineIs(x, 0, 1, 0, 1, 2, 3);
        lineIs(x, 0, 3, 0, 3, 2, 1);
    }

    private static void oneAge() {
        Due.sentence("Terms 1: of two of one age that of the lesser number is the older one");
        EntailedLand x = Due.land("T00P009P004P014P004P014");
        lineIs(x, 0, 0, 0, 1, 3);
        lineIs(x, 0, 1, 0, 1, 2, 3, 4);
        lineIs(x, 0, 2, 0, 2, 4, 1, 3);
        lineIs(x, 0, 3, 0, 4, 3, 2, 1);
        EntailedLand y = Due.land("T00P009P004P005");
        lineIs(y, 0, 1, 0, 2, 1);
        lineIs(y, 0, 3, 0, 1, 2);
        EntailedLand z = Due.land("T00P009P005P004");
        lineIs(z, 0, 1, 0, 1, 2);
        lineIs(z, 0, 3, 0, 2, 1);
    }

    private static void lineOfAWoman() {
        Due.sentence("Terms 1: by SONS the LINE of a woman is nobody");
        EntailedLand x = Due.land("T00P019P005P104P015P304");
        lineIs(x, 0, 0);
        lineIs(x, 0, 1, 0, 1, 2, 3, 4);
        lineIs(x, 1, 0, 1, 2);
        lineIs(x, 3, 0);
        lineIs(x, 3, 2, 3, 4);
        lineIs(x, 4, 0, 4);
    }

    private static void lineItThenItsChildren() {
        Due.sentence("Terms 1: The LINE of a PERSON by a TIE: it, then the LINES of its children in that ORDER");
        EntailedLand chain = Due.land("T00P009P008P107P206P305P404P503");
        lineIs(chain, 0, 0, 0, 1, 2, 3, 4, 5, 6);
        lineIs(chain, 3, 3, 3, 4, 5, 6);
        lineIs(chain, 6, 1, 6);
        EntailedLand two = Due.land("T00P009P003P004P202P101P102P203");
        lineIs(two, 0, 0, 0, 2, 6, 3, 1, 5, 4);
        lineIs(two, 0, 3, 0, 1, 4, 5, 2, 3, 6);
        lineIs(Due.land("T00P009"), 0, 0, 0);
    }

    private static void lineAlsoWhoDoesNotLive() {
        Due.sentence("16: all, also who does not live");
        EntailedLand x = Due.land("T10P009P005P104P003");
        lineIs(x, 0, 1, 0, 1, 2, 3);
        x.die(1);
        x.die(0);
        lineIs(x, 0, 1, 0, 1, 2, 3);
        lineIs(x, 1, 1, 1, 2);
    }

    private static void lineNone() {
        Due.sentence("16: The place of an other PERSON in the LINE of a PERSON; NONE");
        EntailedLand x = Due.land("T00P009P005P104P003");
        Due.is("itself", x.line(2, 2, 1), 0);
        Due.is("the last", x.line(0, 3, 1), 3);
        Due.is("its parent", x.line(2, 1, 1), NONE);
        Due.is("a brother", x.line(1, 3, 1), NONE);
        Due.is("a nephew", x.line(3, 2, 1), NONE);
    }

    private static void lineRefused() {
        Due.sentence("16: UNKNOWN: person, other; BAD: tie (and UNKNOWN is told first)");
        EntailedLand x = Due.land("T00P009P005");
        for (int p : NOBODY) {
            for (int tie = -1; tie <= 4; tie++) {
                Due.is("line(" + p + ", 0, " + tie + ")", x.line(p, 0, tie), UNKNOWN);
                Due.is("line(0, " + p + ", " + tie + ")", x.line(0, p, tie), UNKNOWN);
                Due.is("line(" + p + ", " + p + ", " + tie + ")", x.line(p, p, tie), UNKNOWN);
            }
        }
        Due.is("one behind the last", x.line(2, 0, 1), UNKNOWN);
        Due.is("one behind the last", x.line(0, 2, 1), UNKNOWN);
        Due.is("the last", x.line(0, 1, 1), 1);
        for (int tie : NO_TIE) {
            Due.is("line(0, 1, " + tie + ")", x.line(0, 1, tie), BAD);
        }
        Due.is("tie 0", x.line(0, 1, 0), 1);
        Due.is("tie 3", x.line(0, 1, 3), 1);
        Due.is("nobody at all", new EntailedLand().line(0, 0, 4), UNKNOWN);
    }

    private static void heirInLinesOfChildren() {
        Due.sentence("Terms 1: The HEIR: the first one that lives in the LINES of its children, in ORDER");
        EntailedLand x = Due.land("T10P009P007P105P204P006");
        Due.is("a child", x.heir(0, 1), 1);
        x.die(1);
        Due.is("a grandchild ahead of the other child", x.heir(0, 1), 2);
        x.die(2);
        Due.is("a great-grandchild", x.heir(0, 1), 3);
        x.die(3);
        Due.is("the other child", x.heir(0, 1), 4);
        x.die(4);
        Due.is("none", x.heir(0, 1), NONE);
    }

    private static void heirInLineOfParent() {
        Due.sentence("Terms 1: none: in the LINE of its parent");
        EntailedLand x = Due.land("T10P009P007P006P005P204");
        Due.is("the parent itself", x.heir(1, 1), 0);
        x.die(0);
        Due.is("the eldest of the others", x.heir(1, 1), 2);
        Due.is("the youngest of them", x.heir(1, 3), 3);
        x.die(2);
        Due.is("a nephew", x.heir(1, 1), 4);
        x.die(4);
        Due.is("a younger brother", x.heir(1, 1), 3);
        Due.is("an older brother", x.heir(3, 1), 1);
        EntailedLand y = Due.land("T10P009P007P105");
        y.die(2);
        Due.is("a child that died is none", y.heir(1, 1), 0);
    }

    private static void heirOfThatOnesParent() {
        Due.sentence("Terms 1: none: of that one's parent, and so on; NONE");
        EntailedLand x = Due.land("T10P009P008P107P206P305P404P503");
        for (int above = 5; above >= 0; above--) {
            Due.is("heir(6, 1)", x.heir(6, 1), above);
            Due.is("heir(6, 0)", x.heir(6, 0), above);
            x.die(above);
        }
        Due.is("none is left above", x.heir(6, 1), NONE);
        EntailedLand y = Due.land("T10P009P008P107P006P305");
        y.die(0);
        y.die(1);
        Due.is("an uncle", y.heir(2, 1), 3);
        y.die(3);
        Due.is("a cousin", y.heir(2, 1), 4);
    }

    private static void heirItselfSetAside() {
        Due.sentence("Terms 1: The HEIR of a PERSON by a TIE (itself set aside)");
        EntailedLand x = Due.land("T10P009P007P006");
        x.die(0);
        Due.is("1 lives and is first in the line of its parent", x.heir(1, 1), 2);
        Due.is("2 likewise by the youngest", x.heir(2, 3), 1);
        x.die(2);
        Due.is("only itself lives", x.heir(1, 1), NONE);
        Due.is("of another one it is the heir", x.heir(2, 1), 1);
        Due.is("alone", Due.land("T10P009").heir(0, 1), NONE);
    }

    private static void heirOfAWomanBySons() {
        Due.sentence("Terms 1: the LINES of its children (by SONS men alone; the LINE of a woman is nobody)");
        EntailedLand x = Due.land("T00P019P005P015P204P204");
        Due.is("her son", x.heir(0, 0), 1);
        Due.is("her son", x.heir(2, 0), 3);
        Due.is("her line is nobody, so is her mother's", x.heir(3, 0), NONE);
        EntailedLand y = Due.land("T00P009P018P105P004");
        Due.is("over the mother to her father", y.heir(2, 0), 0);
        y.die(0);
        Due.is("over the mother to her brother", y.heir(2, 0), 3);
        Due.is("no son of a daughter", y.heir(0, 0), 3);
    }

    private static void heirNone() {
        Due.sentence("15: HEIR by a TIE; NONE");
        EntailedLand x = Due.land("T00P009P015P016");
        int[] due = {NONE, 2, 2, 1};
        for (int tie = 0; tie < 4; tie++) {
            Due.is("heir(0, " + tie + ")", x.heir(0, tie), due[tie]);
            Due.is("heir(1, " + tie + ")", x.heir(1, tie), 0);
        }
        x.die(0);
        x.die(1);
        x.die(2);
        for (int tie = 0; tie < 4; tie++) {
            Due.is("none lives", x.heir(0, tie), NONE);
            Due.is("none lives", x.heir(1, tie), NONE);
        }
    }

    private static void heirRefused() {
        Due.sentence("15: UNKNOWN; BAD: tie (and UNKNOWN is told first)");
        EntailedLand x = Due.land("T00P009P005");
        for (int p : NOBODY) {
            for (int tie = -1; tie <= 4; tie++) {
                Due.is("heir(" + p + ", " + tie + ")", x.heir(p, tie), UNKNOWN);
            }
        }
        Due.is("one behind the last", x.heir(2, 0), UNKNOWN);
        Due.is("the last", x.heir(1, 0), 0);
        for (int tie : NO_TIE) {
            Due.is("heir(0, " + tie + ")", x.heir(0, tie), BAD);
        }
        Due.is("tie 0", x.heir(0, 0), 1);
        Due.is("tie 3", x.heir(0, 3), 1);
        Due.is("nobody at all", new EntailedLand().heir(0, 4), UNKNOWN);
    }

    private static void nextNone() {
        Due.sentence("17, Terms 2: NEXT by a TIE: as figures (.. 0: none)");
        EntailedLand x = Due.land("T10P009");
        for (int tie = 0; tie < 4; tie++) {
            Due.is("nobody", new EntailedLand().next(tie), 0);
            Due.is("one", x.next(tie), 1);
        }
        x.die(0);
        Due.is("no holder", x.next(1), 0);
        EntailedLand y = Due.land("T00P009P018");
        y.die(0);
        Due.is("no holder, though she lives", y.next(1), 0);
    }

    private static void nextHolders() {
        Due.sentence("Terms 2: HOLDERS one behind the other from now on, each dies, then the next one (1 more each)");
        EntailedLand x = Due.land("T10P009P008P107P206P305P404P503");
        for (int tie = 0; tie < 4; tie++) {
            Due.is("seven by " + tie, x.next(tie), 1234567);
        }
        x.die(3);
        Due.is("who does not live is none of them", x.next(1), 123567);
        x.die(0);
        Due.is("the holder of now first", x.next(1), 23567);
        EntailedLand y = Due.land("T00P019P005P004");
        Due.is("by sons over the first son to nobody", y.next(0), 12);
        Due.is("by all", y.next(1), 123);
        Due.about(y, 3, 7, 0, 0, 0, 0, 0, 0);
    }

    private static void nextBad() {
        Due.sentence("17: BAD: tie");
        EntailedLand x = Due.land("T00P009");
        for (int tie : NO_TIE) {
            Due.is("next(" + tie + ")", x.next(tie), BAD);
            Due.is("with nobody", new EntailedLand().next(tie), BAD);
        }
        Due.is("next(0)", x.next(0), 1);
        Due.is("next(3)", x.next(3), 1);
    }

    private static void everNoHolder() {
        Due.sentence("18, Terms 2: EVER (0, if there is no HOLDER)");
        EntailedLand x = Due.land("T00P009P018");
        for (int tie = 0; tie < 4; tie++) {
            Due.is("nobody", new EntailedLand().ever(tie), 0);
            Due.is("a holder", x.ever(tie), tie == 0 ? 1 : 3);
        }
        x.die(0);
        for (int tie = 0; tie < 4; tie++) {
            Due.is("no holder", x.ever(tie), 0);
        }
        Due.is("alone", Due.land("T00P019").ever(0), 1);
    }

    private static void everWhoLives() {
        Due.sentence("Terms 2: EVER by a TIE: the HOLDER, and PEOPLE that live");
        EntailedLand x = Due.land("T10P009P008P107P206P305P404P503");
        Due.is("seven", x.ever(1), 127);
        x.die(6);
        Due.is("six", x.ever(1), 63);
        x.die(3);
        Due.is("five", x.ever(1), 55);
        x.die(0);
        Due.is("the holder that was is not", x.ever(1), 54);
        x.undo();
        Due.is("undone", x.ever(1), 55);
    }

    private static void everBySomeSet() {
        Due.sentence("Terms 2: each of which is the HEIR of the HOLDER, if some set of others, and the HOLDER, die at once");
        EntailedLand x = Due.land("T20P009P018P105P104P007P414");
        Due.is("by sons no daughter, no son of hers", x.ever(0), 0b010001);
        Due.is("by all", x.ever(1), 0b111111);
        x.die(0);
        Due.is("she holds", x.about(2), 1);
        Due.is("by sons her sons, and her brother", x.ever(0), 0b011110);
        x.die(1);
        Due.is("her son holds", x.about(2), 2);
        Due.is("by sons his brother is cut off behind her", x.ever(0), 0b010100);
        Due.is("by daughters he is not", x.ever(2), 0b111100);
    }

    private static void everBad() {
        Due.sentence("18: BAD: tie");
        EntailedLand x = Due.land("T00P009");
        for (int tie : NO_TIE) {
            Due.is("ever(" + tie + ")", x.ever(tie), BAD);
            Due.is("with nobody", new EntailedLand().ever(tie), BAD);
        }
        Due.is("ever(0)", x.ever(0), 1);
        Due.is("ever(3)", x.ever(3), 1);
    }
}
