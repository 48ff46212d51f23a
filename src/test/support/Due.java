import java.util.ArrayList;
import java.util.List;

/** What the project's tests share: a call's answer against the one that is due, and lands from texts. */
final class Due {
    private static int wrong = 0;
    private static int asked = 0;
    private static String words = "";

    private Due() {
    }

    /** The document's words by which the answers that follow are due: its promise or "Terms", then the sentence. */
    static void sentence(String told) {
        words = "[" + told + "] ";
    }

    static void is(String call, long got, long want) {
        asked++;
        if (got != want) {
            wrong++;
            System.out.println(words + call + " answered " + got + ", due is " + want);
        }
    }

    static void holds(String what, boolean true_) {
        is(what, true_ ? 1 : 0, 1);
    }

    static int wrong() {
        return wrong;
    }

    static int asked() {
        return asked;
    }

    static void end() {
        if (wrong != 0 || asked == 0) {
            System.out.println(wrong + " of " + asked + " answers are not as due");
            System.exit(1);
        }
        System.out.println(asked + " answers are as due");
    }

    static void tell(EntailedLand x, String text) {
        x.wipe();
        for (int k = 0; k < text.length(); k++) {
            is("write(" + text.charAt(k) + ")", x.write(text.charAt(k)), k + 1);
        }
    }

    static EntailedLand land(String text) {
        EntailedLand x = new EntailedLand();
        tell(x, text);
        is("land() of " + text, x.land(), (text.length() - 3) / 4);
        return x;
    }

    /** All that about and person tell, but for the bytes of THE TEXT. */
    static List<Integer> state(EntailedLand x) {
        List<Integer> all = new ArrayList<>();
        for (int what = 0; what < 8; what++) {
            all.add(x.about(what));
        }
        for (int p = 0; p < x.about(0); p++) {
            for (int what = 0; what < 5; what++) {
                all.add(x.person(p, what));
            }
        }
        return all;
    }

    /** about(0), about(1), .. one behind the other. */
    static void about(EntailedLand x, int... due) {
        for (int what = 0; what < due.length; what++) {
            is("about(" + what + ")", x.about(what), due[what]);
        }
    }
}
