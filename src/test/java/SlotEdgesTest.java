import java.util.List;

/** The edges that the document names of SLOTS, promises 26 and 27: a test for each sentence. */
public final class SlotEdgesTest {
    private static final int UNKNOWN = -1, LATE = -3, NONE = -9;
    private static final int[] NO_SLOT = {-1, 2, 3, -9, Integer.MIN_VALUE, Integer.MAX_VALUE};

    private SlotEdgesTest() {
    }

    public static void main(String[] args) {
        keepUnknown();
        againUnknown();
        noneWereKept();
        tellTheTime();
        nobodyKept();
        allSevenAsTheyWereKept();
        noActsThen();
        keptIsNoAct();
        keptAnew();
        twoSlots();
        goneOnMoreThanOnce();
        goneByLand();
        Due.end();
    }

    private static void keepUnknown() {
        Due.sentence("26, Terms 3: SLOTS 0 .. 1; UNKNOWN");
        EntailedLand x = Due.land("T10P009");
        for (int slot : NO_SLOT) {
            Due.is("keep(" + slot + ")", x.keep(slot), UNKNOWN);
        }
        Due.is("nothing was kept", x.again(0), LATE);
        Due.is("nothing was kept", x.again(1), LATE);
        Due.is("keep(0)", x.keep(0), 0);
        Due.is("keep(1)", x.keep(1), 0);
    }

    private static void againUnknown() {
        Due.sentence("27: UNKNOWN; LATE (and UNKNOWN is told first)");
        EntailedLand x = Due.land("T10P009");
        for (int slot : NO_SLOT) {
            Due.is("again(" + slot + ") with none kept", x.again(slot), UNKNOWN);
        }
        x.keep(0);
        x.keep(1);
        for (int slot : NO_SLOT) {
            Due.is("again(" + slot + ") with all kept", x.again(slot), UNKNOWN);
        }
        Due.is("again(0)", x.again(0), 0);
        Due.is("again(1)", x.again(1), 0);
    }

    private static void noneWereKept() {
        Due.sentence("27: LATE: none were kept");
        for (int slot = 0; slot <= 1; slot++) {
            EntailedLand x = Due.land("T10P009");
            x.tens();
            Due.is("again(" + slot + ")", x.again(slot), LATE);
            x.keep(1 - slot);
            Due.is("the other one was", x.again(slot), LATE);
            Due.is("acts stay", x.about(7), 1);
            x.keep(slot);
            Due.is("now it was", x.again(slot), 1);
        }
    }

    private static void tellTheTime() {
        Due.sentence("26, 27: THE TIME");
        EntailedLand x = Due.land("T10P009");
        Due.is("keep(0)", x.keep(0), 0);
        for (int k = 1; k <= 20; k++) {
            x.tens();
            Due.is("keep(1)", x.keep(1), k);
        }
        Due.is("again(0)", x.again(0), 0);
        Due.is("time", x.about(6), 0);
        Due.is("again(1)", x.again(1), 20);
        Due.is("time", x.about(6), 20);
    }

    private static void nobodyKept() {
        Due.sentence("26: They are kept (nobody too)");
        EntailedLand x = new EntailedLand();
        Due.is("keep(1)", x.keep(1), 0);
        x.tens();
        Due.is("again(1)", x.again(1), 0);
        Due.about(x, 0, 0, NONE, 0, 0, 0, 0, 0, 0);
    }

    private static void allSevenAsTheyWereKept() {
        Due.sentence("27, Terms 3: keep PEOPLE, who lives, the HOLDER, TIE, TIMBER, LOANS, THE TIME: as they were kept");
        EntailedLand x = Due.land("T15P009P005P104P013");
        x.die(0);
        x.tens();
        x.borrow(4);
        x.cut(2);
        x.bear(1, 1);
        x.breakTie(3);
        List<Integer> kept = Due.state(x);
        Due.about(x, 5, 0b11110, 1, 3, 4, 4, 1, 6, 19);
        x.keep(0);
        x.breakTie(0);
        x.die(1);
        x.borrow(1);
        x.cut(4);
        x.tens();
        x.bear(3, 0);
        x.die(4);
        Due.holds("all is another", !kept.equals(Due.state(x)));
        Due.is("again(0)", x.again(0), 1);
        kept.set(7, 0);
        Due.holds("as they were kept", kept.equals(Due.state(x)));
        Due.is("who was born later is none", x.person(5, 3), UNKNOWN);
        Due.is("the text is not kept", x.about(8), 19);
    }

    private static void noActsThen() {
        Due.sentence("Terms 3: no ACTS when one goes on");
        EntailedLand x = Due.land("T15P009");
        for (int k = 0; k < 15; k++) {
            x.tens();
        }
        x.keep(0);
        Due.is("acts stay when they are kept", x.about(7), 14);
        x.again(0);
        Due.is("none then", x.about(7), 0);
        Due.is("undo", x.undo(), LATE);
        x.tens();
        Due.is("the first one then", x.about(7), 1);
        Due.is("undone", x.undo(), 0);
        Due.is("as it was kept", x.about(6), 15);
        Due.is("undo", x.undo(), LATE);
    }

    private static void keptIsNoAct() {
        Due.sentence("26, Terms 1: ACTS (keeping is none of them)");
        EntailedLand x = Due.land("T15P009");
        x.keep(0);
        Due.is("acts", x.about(7), 0);
        x.tens();
        x.keep(1);
        Due.is("acts", x.about(7), 1);
        Due.is("undo", x.undo(), 0);
        Due.is("what was kept is not undone", x.again(1), 1);
    }

    private static void keptAnew() {
        Due.sentence("26: They are kept (the last ones)");
        EntailedLand x = Due.land("T15P009");
        x.keep(0);
        x.tens();
        x.keep(0);
        x.tens();
        Due.is("again(0)", x.again(0), 1);
    }

    private static void twoSlots() {
        Due.sentence("Terms 3: SLOTS 0 .. 1 (each for itself)");
        EntailedLand x = Due.land("T15P009P003");
        x.keep(0);
        x.die(0);
        x.tens();
        x.keep(1);
        x.die(1);
        Due.is("again(0)", x.again(0), 0);
        Due.about(x, 2, 3, 0, 1, 5, 0, 0, 0, 11);
        Due.is("again(1)", x.again(1), 1);
        Due.about(x, 2, 2, 1, 1, 6, 0, 1, 0, 11);
        Due.is("again(0)", x.again(0), 0);
        Due.about(x, 2, 3, 0, 1, 5, 0, 0, 0, 11);
    }

    private static void goneOnMoreThanOnce() {
        Due.sentence("27: They are as they were kept (what comes then changes nothing of it)");
        EntailedLand x = Due.land("T15P009P003");
        x.keep(0);
        List<Integer> kept = Due.state(x);
        for (int k = 0; k < 4; k++) {
            Due.is("again(0)", x.again(0), 0);
            Due.holds("as kept", kept.equals(Due.state(x)));
            x.die(k % 2);
            x.tens();
            x.bear(1 - k % 2, 1);
        }
    }

    private static void goneByLand() {
        Due.sentence("5: what was kept is gone");
        EntailedLand x = Due.land("T15P009");
        x.keep(0);
        x.keep(1);
        x.land();
        Due.is("again(0)", x.again(0), LATE);
        Due.is("again(1)", x.again(1), LATE);
        x.keep(1);
        Due.is("kept since", x.again(1), 0);
        Due.is("not kept since", x.again(0), LATE);
    }
}
