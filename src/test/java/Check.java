/** Counts the answers that are not as due, and fills sheets for the tests. */
final class Check {
    static final int[] DAY_WHAT = {0, 1, 2, 3, 4, 10, 11, 12};
    private final String test;
    private int asked;
    private int wrong;

    Check(String test) {
        this.test = test;
    }

    void is(String what, long got, long due) {
        asked++;
        if (got != due) {
            wrong++;
            System.out.println(test + ": " + what + " answered " + got + ", due is " + due);
        }
    }

    void end() {
        System.out.println(test + ": " + asked + " answers looked at, " + wrong + " not as due");
        if (wrong != 0 || asked == 0) {
            System.exit(1);
        }
    }

    /** What a term needs in the first stand, which, and the terms that are looked at. */
    void needs(NeededAnswers x, int t, int need, int which, int looked) {
        is("needs " + t + " 0", x.needs(t, 0), need);
        is("needs " + t + " 1", x.needs(t, 1), which);
        is("needs " + t + " 2", x.needs(t, 2), looked);
    }

    /** A day of these cells, by what 0 to 4 and 10 to 12. */
    void day(NeededAnswers x, int[] cells, int... due) {
        lay(x, 1, 2, cells);
        for (int k = 0; k < DAY_WHAT.length; k++) {
            is("day " + java.util.Arrays.toString(cells) + " " + DAY_WHAT[k],
                x.day(1, 2, 0, cells.length / 2, DAY_WHAT[k]), due[k]);
        }
    }

    /** Odds of a term and 0, 1, 2, a failure: the upper and the lower number of each. */
    void odds(NeededAnswers x, int t, int... due) {
        for (int v = 0; v <= 3; v++) {
            is("odds of " + t + " and " + v + ", upper", x.odds(t, v, 0), due[2 * v]);
            is("odds of " + t + " and " + v + ", lower", x.odds(t, v, 1), due[2 * v + 1]);
        }
    }

    /** What a trace becomes when these bodies have left their numbers. */
    static int after(int trace, int... bodies) {
        for (int body : bodies) {
            trace = 31 * trace + body;
        }
        return trace;
    }

    /** A sheet of just these cells. */
    static void lay(NeededAnswers x, int sheet, int lane, int... cells) {
        x.sheet(sheet, lane, cells.length);
        for (int i = 0; i < cells.length; i++) {
            x.put(sheet, i, cells[i]);
        }
    }

    static int[] codes(String text) {
        return text.chars().toArray();
    }

    /** Lays the text on a sheet and has it taken. */
    static int take(NeededAnswers x, String text) {
        lay(x, 3, 0, codes(text));
        return x.functions(3, 0, 0, text.length());
    }

    /** An object with the functions of a text. */
    static NeededAnswers with(String text) {
        NeededAnswers x = new NeededAnswers();
        int n = take(x, text);
        if (n < 1) {
            System.out.println("the text " + text + " was not taken: " + n);
            System.exit(1);
        }
        return x;
    }
}
