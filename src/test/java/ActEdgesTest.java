import java.util.ArrayList;
import java.util.List;

/** The edges that the document names of ACTS, promises 8 to 14: a test for each sentence. */
public final class ActEdgesTest {
    private static final int UNKNOWN = -1, BAD = -2, LATE = -3, FULL = -4, NONE = -9;
    private static final int[] NOBODY = {-1, -9, 7, 31, 32, -32, Integer.MIN_VALUE, Integer.MAX_VALUE};
    private static final int[] NOT_1_TO_9 = {0, 10, -1, -9, 11, Integer.MIN_VALUE, Integer.MAX_VALUE};

    private ActEdgesTest() {
    }

    public static void main(String[] args) {
        dieUnknown();
        dieLate();
        diesHolderOrNot();
        diesAndNobodyHolds();
        bearUnknown();
        bearBad();
        bearLate();
        bearFull();
        bearOfSeveral();
        bornAndNoHolder();
        cutBad();
        cutLess();
        cutNoHolder();
        borrowBad();
        borrowMoreThanNine();
        borrowNoHolder();
        breakBad();
        breakOfAge();
        breakNoChild();
        breakItIsThat();
        breakTellsWhatItWas();
        tensOfNobody();
        tensTimber();
        tensAges();
        tensTime();
        undoNone();
        undoEachKind();
        fourteenActs();
        firstForgotten();
        forgottenAndUndoneInTurns();
        refusedIsNoAct();
        fiveHundredAndTwelve();
        Due.end();
    }

    private static void dieUnknown() {
        Due.sentence("8: UNKNOWN");
        EntailedLand x = Due.land("T10P009P005");
        for (int p : NOBODY) {
            Due.is("die(" + p + ")", x.die(p), UNKNOWN);
        }
        Due.is("one behind the last", x.die(2), UNKNOWN);
        Due.is("the last", x.die(1), 0);
        Due.is("the first", x.die(0), NONE);
        Due.is("nobody at all", new EntailedLand().die(0), UNKNOWN);
        EntailedLand y = Due.land("T10P009P005P005P005P005P005P005");
        Due.is("the last of seven", y.die(6), 0);
        Due.is("none behind", y.die(7), UNKNOWN);
    }

    private static void dieLate() {
        Due.sentence("8: LATE: it does not live");
        EntailedLand x = Due.land("T10P009P005");
        Due.is("it lives", x.die(1), 0);
        Due.is("it does not", x.die(1), LATE);
        Due.is("UNKNOWN is told first", x.die(2), UNKNOWN);
        Due.is("undone", x.undo(), 0);
        Due.is("it lives again", x.die(1), 0);
    }

    private static void diesHolderOrNot() {
        Due.sentence("Terms 1: DIES: if it was the HOLDER, its HEIR by the TIE is then, LOANS are none");
        EntailedLand x = Due.land("T10P009P005P003");
        x.borrow(9);
        Due.is("not the holder", x.die(2), 0);
        Due.is("loans stay", x.about(5), 9);
        x.undo();
        Due.is("the holder", x.die(0), 1);
        Due.is("loans are none", x.about(5), 0);
        Due.is("lives", x.about(1), 0b110);
        Due.is("the next one may borrow all", x.borrow(9), 9);
        int[] heirs = {2, 1, 1, 3};
        for (int tie = 0; tie < 4; tie++) {
            EntailedLand y = Due.land("T" + tie + "0P009P017P006P004");
            Due.is("by tie " + tie, y.die(0), heirs[tie]);
        }
    }

    private static void diesAndNobodyHolds() {
        Due.sentence("8: who holds then; NONE");
        EntailedLand x = Due.land("T00P009P018");
        x.borrow(3);
        Due.is("no heir by sons", x.die(0), NONE);
        Due.is("loans", x.about(5), 0);
        Due.is("she lives", x.about(1), 0b10);
        Due.is("who dies then", x.die(1), NONE);
        Due.is("none lives", x.about(1), 0);
        EntailedLand y = Due.land("T10P009P018");
        Due.is("an heir by all", y.die(0), 1);
    }

    private static void bearUnknown() {
        Due.sentence("9: UNKNOWN: parent");
        EntailedLand x = Due.land("T10P009P005");
        for (int p : NOBODY) {
            Due.is("bear(" + p + ", 0)", x.bear(p, 0), UNKNOWN);
        }
        Due.is("one behind the last", x.bear(2, 0), UNKNOWN);
        Due.is("the last", x.bear(1, 0), 2);
        Due.is("who was born", x.bear(2, 1), 3);
        Due.is("nobody at all", new EntailedLand().bear(0, 0), UNKNOWN);
    }

    private static void bearBad() {
        Due.sentence("9: BAD: woman (0, 1)");
        EntailedLand x = Due.land("T10P009");
        int[] bad = {-1, 2, 3, Integer.MIN_VALUE, Integer.MAX_VALUE};
        for (int woman : bad) {
            Due.is("bear(0, " + woman + ")", x.bear(0, woman), BAD);
        }
        Due.is("a man", x.bear(0, 0), 1);
        Due.is("a woman", x.bear(0, 1), 2);
        Due.is("a man", x.person(1, 1), 0);
        Due.is("a woman", x.person(2, 1), 1);
        Due.is("0 old", x.person(1, 2), 0);
        Due.is("lives", x.person(1, 3), 1);
        Due.is("parent", x.person(1, 0), 0);
    }

    private static void bearLate() {
        Due.sentence("9: LATE: the parent does not live");
        EntailedLand x = Due.land("T10P009P005");
        Due.is("it lives", x.bear(1, 0), 2);
        x.die(1);
        Due.is("it does not", x.bear(1, 0), LATE);
        Due.is("another one does", x.bear(0, 0), 3);
        x.undo();
        x.undo();
        Due.is("it lives again", x.bear(1, 0), 3);
    }

    private static void bearFull() {
        Due.sentence("9: FULL: there are 7; its number");
        EntailedLand x = Due.land("T10P009");
        for (int k = 1; k < 7; k++) {
            Due.is("person " + k, x.bear(0, k % 2), k);
            Due.is("people", x.about(0), k + 1);
        }
        Due.is("an eighth", x.bear(0, 0), FULL);
        Due.is("people", x.about(0), 7);
        x.die(6);
        Due.is("who died is still one of them", x.bear(0, 0), FULL);
        x.undo();
        x.undo();
        Due.is("the seventh once more", x.bear(5, 1), 6);
        EntailedLand y = Due.land("T10P009P005P005P005P005P005P005");
        Due.is("seven by the text", y.bear(0, 0), FULL);
        EntailedLand z = Due.land("T10P009P005P005P005P005P005");
        Due.is("six by the text", z.bear(0, 0), 6);
    }

    private static void bearOfSeveral() {
        Due.sentence("9, Terms 4: Of several what is told first: UNKNOWN; BAD; LATE; FULL");
        EntailedLand x = Due.land("T10P009P005P005P005P005P005P005");
        x.die(1);
        Due.is("unknown, bad, full", x.bear(7, 2), UNKNOWN);
        Due.is("unknown, full", x.bear(7, 0), UNKNOWN);
        Due.is("bad, late, full", x.bear(1, 2), BAD);
        Due.is("bad, full", x.bear(0, 2), BAD);
        Due.is("late, full", x.bear(1, 0), LATE);
        Due.is("full", x.bear(0, 0), FULL);
    }

    private static void bornAndNoHolder() {
        Due.sentence("Terms 1: BORN: a PERSON more (and no other HOLDER)");
        EntailedLand x = Due.land("T00P009P018");
        x.die(0);
        Due.is("a son of hers", x.bear(1, 0), 2);
        Due.is("nobody holds", x.about(2), NONE);
        EntailedLand y = Due.land("T00P009");
        y.borrow(2);
        y.bear(0, 0);
        Due.about(y, 2, 3, 0, 0, 0, 2, 0, 2);
    }

    private static void cutBad() {
        Due.sentence("10: BAD: n (1 .. 9)");
        EntailedLand x = Due.land("T09P009");
        for (int n : NOT_1_TO_9) {
            Due.is("cut(" + n + ")", x.cut(n), BAD);
        }
        Due.is("timber", x.about(4), 9);
        Due.is("cut(1)", x.cut(1), 8);
        x.undo();
        Due.is("cut(9)", x.cut(9), 0);
        Due.is("BAD is told ahead of LATE", x.cut(10), BAD);
        Due.is("BAD is told ahead of LATE", x.cut(0), BAD);
    }

    private static void cutLess() {
        Due.sentence("10: how much is left; LATE: there is less");
        for (int timber = 0; timber <= 9; timber++) {
            for (int n = 1; n <= 9; n++) {
                EntailedLand x = Due.land("T0" + timber + "P009");
                Due.is("cut(" + n + ") of " + timber, x.cut(n), n <= timber ? timber - n : LATE);
                Due.is("timber", x.about(4), n <= timber ? timber - n : timber);
            }
        }
    }

    private static void cutNoHolder() {
        Due.sentence("10: LATE: .. or no HOLDER");
        EntailedLand x = Due.land("T09P009");
        Due.is("a holder", x.cut(1), 8);
        x.die(0);
        Due.is("none", x.cut(1), LATE);
        Due.is("BAD is told first", x.cut(0), BAD);
        Due.is("nobody", Due.land("T09").cut(1), LATE);
    }

    private static void borrowBad() {
        Due.sentence("11: BAD: n (1 .. 9)");
        EntailedLand x = Due.land("T00P009");
        for (int n : NOT_1_TO_9) {
            Due.is("borrow(" + n + ")", x.borrow(n), BAD);
        }
        Due.is("loans", x.about(5), 0);
        Due.is("borrow(1)", x.borrow(1), 1);
        x.undo();
        Due.is("borrow(9)", x.borrow(9), 9);
        Due.is("BAD is told ahead of LATE", x.borrow(10), BAD);
        Due.is("BAD is told ahead of LATE", x.borrow(0), BAD);
    }

    private static void borrowMoreThanNine() {
        Due.sentence("11, Terms 1: LOANS then (9 at most); LATE: they would be more than 9");
        for (int first = 1; first <= 9; first++) {
            for (int n = 1; n <= 9; n++) {
                EntailedLand x = Due.land("T00P009");
                Due.is("borrow(" + first + ")", x.borrow(first), first);
                Due.is("and " + n, x.borrow(n), first + n <= 9 ? first + n : LATE);
                Due.is("loans", x.about(5), first + n <= 9 ? first + n : first);
            }
        }
    }

    private static void borrowNoHolder() {
        Due.sentence("11: LATE: .. or there is no HOLDER");
        EntailedLand x = Due.land("T00P009");
        Due.is("a holder", x.borrow(1), 1);
        x.die(0);
        Due.is("none", x.borrow(1), LATE);
        Due.is("BAD is told first", x.borrow(0), BAD);
        Due.is("nobody", Due.land("T00").borrow(1), LATE);
    }

    private static void breakBad() {
        Due.sentence("12: BAD: tie");
        EntailedLand x = Due.land("T10P009P005");
        int[] bad = {-1, 4, 5, Integer.MIN_VALUE, Integer.MAX_VALUE};
        for (int tie : bad) {
            Due.is("breakTie(" + tie + ")", x.breakTie(tie), BAD);
            Due.is("BAD is told ahead of LATE", Due.land("T10").breakTie(tie), BAD);
        }
        Due.is("breakTie(0)", x.breakTie(0), 1);
        Due.is("breakTie(3)", x.breakTie(3), 0);
    }

    private static void breakOfAge() {
        Due.sentence("12, Terms 1: BROKEN: if the HEIR of the HOLDER is its child, 2 tens old or older");
        for (int age = 0; age <= 9; age++) {
            EntailedLand x = Due.land("T10P009P00" + age);
            Due.is("an heir of " + age, x.breakTie(2), age >= 2 ? 1 : LATE);
            Due.is("tie", x.about(3), age >= 2 ? 2 : 1);
        }
        EntailedLand y = Due.land("T10P009P000");
        y.tens();
        Due.is("one ten", y.breakTie(2), LATE);
        y.tens();
        Due.is("two tens", y.breakTie(2), 1);
        EntailedLand z = Due.land("T30P009P005P001");
        Due.is("the heir, not another child, is of age", z.breakTie(1), LATE);
        z.die(2);
        Due.is("then it is", z.breakTie(1), 3);
    }

    private static void breakNoChild() {
        Due.sentence("12: LATE: there is no such HEIR");
        Due.is("nobody", Due.land("T10").breakTie(2), LATE);
        Due.is("no heir", Due.land("T10P009").breakTie(2), LATE);
        Due.is("no heir by sons", Due.land("T00P009P015").breakTie(2), LATE);
        Due.is("an heir by all", Due.land("T10P009P015").breakTie(2), 1);
        EntailedLand x = Due.land("T10P009P007P105P003");
        Due.is("a child", x.breakTie(2), 1);
        x.undo();
        x.die(1);
        Due.is("a grandchild", x.breakTie(2), LATE);
        x.die(2);
        Due.is("the other child", x.breakTie(2), 1);
        EntailedLand y = Due.land("T10P009P007P006");
        y.die(0);
        Due.is("a brother", y.breakTie(2), LATE);
        y.die(1);
        y.die(2);
        Due.is("no holder", y.breakTie(2), LATE);
    }

    private static void breakItIsThat() {
        Due.sentence("12: LATE: .. or it is that");
        for (int tie = 0; tie < 4; tie++) {
            for (int other = 0; other < 4; other++) {
                EntailedLand x = Due.land("T" + tie + "0P009P005");
                Due.is(tie + " to " + other, x.breakTie(other), tie == other ? LATE : tie);
                Due.is("tie", x.about(3), other);
            }
        }
    }

    private static void breakTellsWhatItWas() {
        Due.sentence("12: BROKEN: the TIE it was");
        EntailedLand x = Due.land("T20P009P006P015");
        Due.is("from 2", x.breakTie(0), 2);
        Due.is("from 0", x.breakTie(2), 0);
        Due.is("from 2", x.breakTie(3), 2);
        Due.is("who holds by the last one", x.die(0), 2);
    }

    private static void tensOfNobody() {
        Due.sentence("13: TENS: THE TIME (with nobody too)");
        EntailedLand x = new EntailedLand();
        Due.is("tens", x.tens(), 1);
        Due.about(x, 0, 0, NONE, 0, 1, 0, 1, 1, 0);
        EntailedLand y = Due.land("T00P009");
        y.die(0);
        Due.is("with no holder", y.tens(), 1);
        Due.is("timber", y.about(4), 1);
    }

    private static void tensTimber() {
        Due.sentence("Terms 1: TIMBER is one more (9 at most)");
        for (int timber = 0; timber <= 9; timber++) {
            EntailedLand x = Due.land("T0" + timber + "P009");
            x.tens();
            Due.is("of " + timber, x.about(4), timber < 9 ? timber + 1 : 9);
            x.undo();
            Due.is("undone", x.about(4), timber);
        }
    }

    private static void tensAges() {
        Due.sentence("Terms 1: all PEOPLE are one ten older (also who does not live)");
        EntailedLand x = Due.land("T00P009P008P107P206P305P404P503");
        x.die(6);
        x.die(0);
        x.tens();
        for (int p = 0; p < 7; p++) {
            Due.is("person " + p, x.person(p, 2), 10 - p);
        }
        x.tens();
        Due.is("beyond 9", x.person(0, 2), 11);
        Due.is("who does not live", x.person(6, 2), 5);
    }

    private static void tensTime() {
        Due.sentence("Terms 1: THE TIME is one more");
        EntailedLand x = Due.land("T00P009");
        for (int k = 1; k <= 30; k++) {
            Due.is("tens", x.tens(), k);
            Due.is("time", x.about(6), k);
        }
        x.cut(1);
        x.borrow(1);
        Due.is("other acts take none", x.about(6), 30);
    }

    private static void undoNone() {
        Due.sentence("14: LATE: there is none");
        EntailedLand x = new EntailedLand();
        Due.is("a new object", x.undo(), LATE);
        x.tens();
        Due.is("one", x.undo(), 0);
        Due.is("none", x.undo(), LATE);
        EntailedLand y = Due.land("T00P009");
        Due.is("a land made anew", y.undo(), LATE);
        y.keep(0);
        y.seed(3);
        y.families(2);
        Due.is("these are no acts", y.undo(), LATE);
        y.tens();
        y.again(0);
        Due.is("gone on from what was kept", y.undo(), LATE);
    }

    private static void undoEachKind() {
        Due.sentence("14, Terms 1: ACTS (DIES, BORN, CUT, BORROWED, BROKEN, TENS): the last one is undone: how many are left");
        EntailedLand x = Due.land("T05P009P005P013");
        List<List<Integer>> states = new ArrayList<>();
        for (int k = 0; k < 6; k++) {
            states.add(Due.state(x));
            Due.holds("act " + k + " is done", act(x, k) >= 0);
            Due.is("acts", x.about(7), k + 1);
            Due.holds("act " + k + " changes something", !states.get(k).equals(Due.state(x)));
        }
        for (int k = 5; k >= 0; k--) {
            Due.is("undo", x.undo(), k);
            Due.holds("as it was ahead of act " + k, states.get(k).equals(Due.state(x)));
        }
        Due.is("none is left", x.undo(), LATE);
        x.bear(0, 1);
        x.undo();
        x.bear(2, 0);
        Due.is("a man where a woman was undone", x.person(3, 1), 0);
        Due.is("of another parent", x.person(3, 0), 2);
        Due.is("no child of the first one", x.person(0, 4), 0b110);
    }

    private static int act(EntailedLand x, int kind) {
        switch (kind) {
            case 0: return x.bear(1, 1);
            case 1: return x.cut(2);
            case 2: return x.borrow(6);
            case 3: return x.breakTie(2);
            case 4: return x.tens();
            default: return x.die(0);
        }
    }

    private static void fourteenActs() {
        Due.sentence("Terms 1: ACTS are a row (14 at most)");
        EntailedLand x = Due.land("T00P000");
        for (int k = 1; k <= 30; k++) {
            x.tens();
            Due.is("acts behind " + k, x.about(7), Math.min(k, 14));
        }
        for (int done = 13; done <= 15; done++) {
            EntailedLand y = Due.land("T00P000");
            for (int k = 0; k < done; k++) {
                y.tens();
            }
            int most = Math.min(done, 14);
            for (int k = most - 1; k >= 0; k--) {
                Due.is("undo of " + done, y.undo(), k);
            }
            Due.is("none of " + done + " is left", y.undo(), LATE);
            Due.is("time", y.about(6), done - most);
        }
    }

    private static void firstForgotten() {
        Due.sentence("Terms 1: when it is full, the first one is forgotten");
        EntailedLand x = Due.land("T05P009P005");
        x.cut(5);
        List<Integer> behindFirst = Due.state(x);
        for (int k = 0; k < 14; k++) {
            x.tens();
        }
        for (int k = 0; k < 14; k++) {
            x.undo();
        }
        Due.is("the cut cannot be undone", x.undo(), LATE);
        behindFirst.set(7, 0);
        Due.holds("as it was behind the first one", behindFirst.equals(Due.state(x)));
        EntailedLand y = Due.land("T05P009P005");
        y.cut(5);
        for (int k = 0; k < 13; k++) {
            y.tens();
        }
        for (int k = 0; k < 14; k++) {
            y.undo();
        }
        Due.is("of 14 the cut is undone too", y.about(4), 5);
    }

    private static void forgottenAndUndoneInTurns() {
        Due.sentence("Terms 1: the first one is forgotten; the last one can be undone (in turns)");
        EntailedLand x = Due.land("T00P000");
        List<Integer> row = new ArrayList<>();
        int time = 0;
        for (int round = 0; round < 12; round++) {
            for (int k = 0; k < 3 + round % 5; k++) {
                row.add(time++);
                Due.is("tens", x.tens(), time);
                if (row.size() > 14) {
                    row.remove(0);
                }
            }
            for (int k = 0; k < 2 && !row.isEmpty(); k++) {
                time = row.remove(row.size() - 1);
                Due.is("undo", x.undo(), row.size());
                Due.is("time", x.about(6), time);
            }
        }
        while (!row.isEmpty()) {
            time = row.remove(row.size() - 1);
            Due.is("undo", x.undo(), row.size());
            Due.is("time", x.about(6), time);
        }
        Due.is("none is left", x.undo(), LATE);
    }

    private static void refusedIsNoAct() {
        Due.sentence("14, Terms 4: What is refused changes nothing (it is no ACT)");
        EntailedLand x = Due.land("T01P009P001P005");
        for (int k = 0; k < 14; k++) {
            x.tens();
        }
        x.die(1);
        int[] refused = {x.die(7), x.die(1), x.bear(7, 0), x.bear(0, 2), x.bear(1, 0), x.cut(0), x.borrow(10),
                x.breakTie(4), x.breakTie(0), x.keep(2), x.again(0), x.again(2), x.families(0)};
        int[] due = {UNKNOWN, LATE, UNKNOWN, BAD, LATE, BAD, BAD, BAD, LATE, UNKNOWN, LATE, UNKNOWN, BAD};
        for (int k = 0; k < due.length; k++) {
            Due.is("refused " + k, refused[k], due[k]);
        }
        Due.is("acts", x.about(7), 14);
        Due.is("the last one is the death", x.undo(), 13);
        Due.is("it lives", x.person(1, 3), 1);
        for (int k = 12; k >= 0; k--) {
            Due.is("undo", x.undo(), k);
        }
        Due.is("none is left", x.undo(), LATE);
        Due.is("none more was forgotten than one", x.about(6), 1);
    }

    private static void fiveHundredAndTwelve() {
        Due.sentence("What it is: An object is used for at most 512 calls after it has been made");
        EntailedLand x = new EntailedLand();
        for (int k = 1; k <= 500; k++) {
            Due.is("tens", x.tens(), k);
        }
        Due.about(x, 0, 0, NONE, 0, 9, 0, 500, 14, 0);
        Due.is("call 510", x.undo(), 13);
        Due.is("call 511", x.keep(1), 499);
        Due.is("call 512", x.again(1), 499);
    }
}
