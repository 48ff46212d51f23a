import java.util.ArrayList;
import java.util.List;

/** What an object answers to calls of every kind, so that two objects can be told from one another. */
final class Probe {
    private final EntailedLand x;
    private final List<Long> answers = new ArrayList<>();

    private Probe(EntailedLand x) {
        this.x = x;
    }

    /** All answers; the object is spent behind it: undone, gone on from what was kept, made anew. */
    static List<Long> spend(EntailedLand x) {
        Probe p = new Probe(x);
        p.state();
        p.heirs();
        p.reckonings();
        p.add(x.families(20));
        p.add(x.seed(0));
        p.undoAll();
        for (int slot = 0; slot < 2; slot++) {
            p.add(x.again(slot));
            p.state();
        }
        p.text();
        return p.answers;
    }

    private void add(long answer) {
        answers.add(answer);
    }

    private void state() {
        for (int what = 0; what < 9; what++) {
            add(x.about(what));
        }
        for (int p = 0; p < 7; p++) {
            for (int what = 0; what < 5; what++) {
                add(x.person(p, what));
            }
        }
    }

    private void heirs() {
        for (int tie = 0; tie < 4; tie++) {
            add(x.next(tie));
            add(x.ever(tie));
            for (int p = 0; p < 7; p++) {
                add(x.heir(p, tie));
                add(x.line(0, p, tie));
            }
        }
    }

    private void reckonings() {
        for (int n = 1; n <= 4; n++) {
            add(x.best(n, false, true));
            add(x.best(n, true, true));
            add(x.lender(n, 0, true));
        }
        for (int p = 0; p < 7; p++) {
            add(x.odds(p, true));
            add(x.odds(p, false));
            add(x.ties(1, p + 1, 1));
        }
        for (int w = 0; w < 10; w += 3) {
            add(x.rests(w, 0));
        }
    }

    private void undoAll() {
        for (int k = 0; k < 15; k++) {
            add(x.undo());
            add(x.next(1));
            for (int what = 1; what < 7; what++) {
                add(x.about(what));
            }
        }
    }

    /** What THE TEXT is, seen by its fault and by the land that it makes. */
    private void text() {
        add(x.fault());
        add(x.land());
        state();
        add(x.write('P'));
        add(x.fault());
        add(x.wipe());
    }
}
