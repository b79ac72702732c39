/** Counts the answers that are not as due, and fills sheets for the tests. */
final class Check {
    private final String test;
    private int asked;
    private int wrong;

    Check(String test) {
        this.test = test;
    }

    void is(String what, long got, long due) {
        asked++;
        if (got != due) {
            wrong++;
            System.out.println(test + ": " + what + " answered " + got + ", due is " + due);
        }
    }

    void end() {
        System.out.println(test + ": " + asked + " answers looked at, " + wrong + " not as due");
        if (wrong != 0 || asked == 0) {
            System.exit(1);
        }
    }

    /** A sheet of just these cells. */
    static void lay(NeededAnswers x, int sheet, int lane, int... cells) {
        x.sheet(sheet, lane, cells.length);
        for (int i = 0; i < cells.length; i++) {
            x.put(sheet, i, cells[i]);
        }
    }

    static int[] codes(String text) {
        return text.chars().toArray();
    }

    /** Lays the text on a sheet and has it taken. */
    static int take(NeededAnswers x, String text) {
        lay(x, 3, 0, codes(text));
        return x.functions(3, 0, 0, text.length());
    }

    /** An object with the functions of a text. */
    static NeededAnswers with(String text) {
        NeededAnswers x = new NeededAnswers();
        int n = take(x, text);
        if (n < 1) {
            System.out.println("the text " + text + " was not taken: " + n);
            System.exit(1);
        }
        return x;
    }
}
