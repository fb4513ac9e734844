/** Counts answers that are not as due, and feeds texts. */
final class Due {
    private int wrong = 0;
    private int asked = 0;

    void is(String what, long got, long due) {
        asked++;
        if (got != due) {
            wrong++;
            System.out.println(what + " answered " + got + ", due is " + due);
        }
    }

    void is(String what, boolean got, boolean due) {
        is(what, got ? 1L : 0L, due ? 1L : 0L);
    }

    /** An answer, and the STATUS behind it. */
    void is(String what, DarkRing x, long got, long due, int status) {
        is(what, got, due);
        is(what + ", status()", x.status(), status);
    }

    void is(String what, DarkRing x, boolean got, boolean due, int status) {
        is(what, got, due);
        is(what + ", status()", x.status(), status);
    }

    void fraction(String what, DarkRing x, long top, long bottom) {
        is(what + ", top()", x.top(), top);
        is(what + ", bottom()", x.bottom(), bottom);
    }

    /** Ends the test's machine with 1 if an answer was wrong. */
    void end(String test) {
        System.out.println(test + ": " + asked + " answers, " + wrong + " not as due");
        if (wrong != 0) System.exit(1);
    }

    /** A text comes behind what is on the tape; what is left of twenty bytes is blanks. */
    static void feed(DarkRing x, String text) {
        for (int i = 0; i < text.length(); i += 20) {
            x.feed(four(text, i), four(text, i + 4), four(text, i + 8), four(text, i + 12), four(text, i + 16));
        }
    }

    private static int four(String text, int from) {
        int four = 0;
        for (int i = from; i < from + 4; i++) {
            four = four << 8 | (i < text.length() ? text.charAt(i) & 255 : 32);
        }
        return four;
    }

    static int house(DarkRing x, String text) {
        feed(x, text);
        return x.house(text.length());
    }

    static int rule(DarkRing x, String text) {
        feed(x, text);
        return x.rule(text.length());
    }
}
