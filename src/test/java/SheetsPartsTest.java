/** Promises 20 to 30: sheets, parts. */
public final class SheetsPartsTest {
    private static final Check check = new Check("SheetsPartsTest");
    private static final long LOST = Long.MIN_VALUE;

    public static void main(String[] args) {
        sheetsAreLaid();
        sheetsAreLost();
        cellsArePut();
        cellsAreTaken();
        cellsAreCopied();
        copiesThatOverlap();
        copiesRefused();
        tellingLeavesTraces();
        notingLeavesTraces();
        traceWraps();
        asKinds();
        faultOfTheLatest();
        manyOfEach();
        constants();
        check.end();
    }

    private static void answersFault(NeededAnswers x, String what, long got, long due, int fault) {
        check.is(what, got, due);
        check.is(what + ", fault", x.fault(), fault);
    }

    private static void sheetsAreLaid() {
        NeededAnswers x = new NeededAnswers();
        answersFault(x, "sheet -1", x.sheet(-1, 9, 99), -1, 0);
        answersFault(x, "sheet 4", x.sheet(4, 0, 1), -1, 0);
        answersFault(x, "lane -1", x.sheet(0, -1, -1), -2, 0);
        answersFault(x, "lane 3", x.sheet(0, 3, 1), -2, 0);
        answersFault(x, "n 61", x.sheet(0, 0, 61), -2, 0);
        answersFault(x, "n far", x.sheet(0, 0, Integer.MAX_VALUE), -2, 0);
        answersFault(x, "n -1", x.sheet(0, 0, -1), -14, 4);
        answersFault(x, "nothing is laid", x.put(0, 0, 0), -11, 1);
        answersFault(x, "n 60", x.sheet(0, 2, 60), 1, 0);
        check.is("the last cell", x.put(0, 59, 77), 1);
        check.is("the first cell", x.put(0, 0, 78), 1);
        answersFault(x, "n least", x.sheet(0, 0, Integer.MIN_VALUE), -14, 4);
        check.is("the row stays", x.cell(0, 59, 2), 77);
        check.is("a new row", x.sheet(0, 2, 60), 1);
        for (int i = 0; i < 60; i++) {
            check.is("0 at first", x.cell(0, i, 2), 0);
        }
        x.put(0, 5, 5);
        check.is("a shorter one of another lane", x.sheet(0, 0, 6), 1);
        check.is("0 again", x.cell(0, 5, 0), 0);
        check.is("no more cells", x.put(0, 6, 1), -13);
        check.is("an empty one", x.sheet(0, 0, 0), 1);
        check.is("has none", x.put(0, 0, 1), -13);
        check.is("it is there", x.lose(0), 1);
        check.is("others have nothing", x.lose(1), 0);
    }

    private static void sheetsAreLost() {
        NeededAnswers x = new NeededAnswers();
        check.is("sheet -1", x.lose(-1), -1);
        check.is("sheet 4", x.lose(4), -1);
        for (int k = 0; k < 4; k++) {
            check.is("nothing", x.lose(k), 0);
            x.sheet(k, 0, 3);
            x.put(k, 9, 9);
            check.is("lost", x.lose(k), 1);
            check.is("lose names no faults", x.fault(), 3);
            check.is("lost before", x.lose(k), 0);
            check.is("no cell", x.put(k, 0, 1), -11);
        }
    }

    private static void cellsArePut() {
        NeededAnswers x = new NeededAnswers();
        answersFault(x, "sheet -1", x.put(-1, 0, 0), -1, 0);
        answersFault(x, "sheet 4", x.put(4, 0, 0), -1, 0);
        answersFault(x, "NULL ahead of INDEX", x.put(0, -1, 0), -11, 1);
        int[] values = {0, 1, -1, 127, 128, -128, -129, 255, 256, 32767, 32768, -32769, 65536, 70000,
            Integer.MAX_VALUE, Integer.MIN_VALUE};
        for (int lane = 0; lane <= 2; lane++) {
            x.sheet(0, lane, 3);
            answersFault(x, "cell -1", x.put(0, -1, 1), -13, 3);
            answersFault(x, "cell 3", x.put(0, 3, 1), -13, 3);
            answersFault(x, "cell far", x.put(0, Integer.MIN_VALUE, 1), -13, 3);
            for (int v : values) {
                answersFault(x, "put " + v, x.put(0, 1, v), 1, 0);
                long due = lane == 0 ? (byte) v : lane == 1 ? (short) v : v;
                check.is("cut to lane " + lane, x.cell(0, 1, lane), due);
            }
            check.is("cell 0", x.cell(0, 0, lane), 0);
            check.is("cell 2", x.cell(0, 2, lane), 0);
        }
    }

    private static void cellsAreTaken() {
        NeededAnswers x = new NeededAnswers();
        x.sheet(1, 1, 2);
        x.put(1, 1, -5);
        answersFault(x, "a cell", x.cell(1, 1, 1), -5, 0);
        answersFault(x, "sheet -1", x.cell(-1, 0, 0), LOST, 0);
        x.put(0, 0, 0);
        answersFault(x, "sheet 4", x.cell(4, 0, 0), LOST, 0);
        x.put(0, 0, 0);
        answersFault(x, "lane -1", x.cell(1, 0, -1), LOST, 0);
        x.put(0, 0, 0);
        answersFault(x, "lane 3", x.cell(0, 0, 3), LOST, 0);
        answersFault(x, "CAST", x.cell(1, 9, 0), LOST, 2);
        answersFault(x, "CAST too", x.cell(1, 0, 2), LOST, 2);
        answersFault(x, "nothing is no CAST", x.cell(0, 9, 2), LOST, 1);
        answersFault(x, "INDEX -1", x.cell(1, -1, 1), LOST, 3);
        answersFault(x, "INDEX 2", x.cell(1, 2, 1), LOST, 3);
        answersFault(x, "a cell again", x.cell(1, 0, 1), 0, 0);
    }

    private static void cellsAreCopied() {
        for (int lane = 0; lane <= 2; lane++) {
            NeededAnswers x = new NeededAnswers();
            Check.lay(x, 0, lane, 1, 2, 3, 4);
            Check.lay(x, 1, lane, 11, 12, 13, 14, 15);
            answersFault(x, "two cells", x.copy(0, 1, 1, 3, 2), 2, 0);
            int[] due = {11, 12, 13, 2, 3};
            for (int i = 0; i < 5; i++) {
                check.is("to " + i, x.cell(1, i, lane), due[i]);
            }
            for (int i = 0; i < 4; i++) {
                check.is("from " + i, x.cell(0, i, lane), i + 1);
            }
            check.is("all", x.copy(0, 0, 1, 1, 4), 4);
            check.is("none", x.copy(0, 4, 1, 5, 0), 0);
            check.is("the last", x.cell(1, 4, lane), 4);
        }
    }

    private static void copiesThatOverlap() {
        NeededAnswers x = new NeededAnswers();
        Check.lay(x, 2, 2, 1, 2, 3, 4, 5);
        check.is("up", x.copy(2, 0, 2, 1, 4), 4);
        int[] up = {1, 1, 2, 3, 4};
        for (int i = 0; i < 5; i++) {
            check.is("up " + i, x.cell(2, i, 2), up[i]);
        }
        check.is("down", x.copy(2, 2, 2, 0, 3), 3);
        int[] down = {2, 3, 4, 3, 4};
        for (int i = 0; i < 5; i++) {
            check.is("down " + i, x.cell(2, i, 2), down[i]);
        }
    }

    private static void copiesRefused() {
        NeededAnswers x = new NeededAnswers();
        x.sheet(0, 0, 4);
        x.sheet(1, 1, 4);
        x.sheet(2, 0, 6);
        answersFault(x, "from -1", x.copy(-1, 0, 3, 0, 0), -1, 0);
        answersFault(x, "from 4", x.copy(4, 0, 0, 0, 0), -1, 0);
        answersFault(x, "to -1", x.copy(3, 0, -1, 0, 0), -1, 0);
        answersFault(x, "to 4", x.copy(3, 0, 4, 0, 0), -1, 0);
        answersFault(x, "first NULL", x.copy(3, -1, 1, -1, -1), -11, 1);
        answersFault(x, "other NULL", x.copy(0, -1, 3, -1, -1), -11, 1);
        answersFault(x, "CAST", x.copy(0, -1, 1, -1, -1), -12, 2);
        int far = Integer.MAX_VALUE;
        int[][] beyond = {{-1, 0, 1}, {0, -1, 1}, {0, 0, -1}, {5, 0, 0}, {0, 7, 0}, {4, 0, 1}, {0, 6, 1}, {0, 0, 5},
            {1, 0, 4}, {0, 3, 4}, {far, 0, 1}, {0, far, 1}, {1, 1, far}, {far, far, far}, {-1, -1, Integer.MIN_VALUE}};
        for (int[] b : beyond) {
            answersFault(x, "INDEX " + b[0] + " " + b[1] + " " + b[2], x.copy(0, b[0], 2, b[1], b[2]), -13, 3);
        }
        answersFault(x, "none at the ends", x.copy(0, 4, 2, 6, 0), 0, 0);
    }

    private static void tellingLeavesTraces() {
        NeededAnswers x = Check.with("n;p30012;d40012;w50012");
        check.is("plain", x.tell(0), 3);
        int due = Check.after(0, 1);
        check.is("plain's trace", x.trace(), due);
        check.is("dear", x.tell(1), 104);
        due = Check.after(due, 2, 1);
        check.is("dear's trace", x.trace(), due);
        check.is("double", x.tell(2), 110);
        due = Check.after(due, 3, 2, 1, 1);
        check.is("double's trace", x.trace(), due);
        check.is("function -1", x.tell(-1), -1);
        check.is("function 3", x.tell(3), -1);
        check.is("no trace of them", x.trace(), due);
        x.price(2, 9);
        check.is("by the price of now", x.tell(2), 118);
    }

    private static void notingLeavesTraces() {
        NeededAnswers x = Check.with("n;p30012;d40012;w50012");
        check.is("plain", x.note(0), 0);
        check.is("plain's trace", x.trace(), 4);
        check.is("dear", x.note(1), 1);
        check.is("dear's trace", x.trace(), Check.after(0, 4, 4));
        check.is("double", x.note(2), 30);
        check.is("double's trace", x.trace(), Check.after(0, 4, 4, 5));
        check.is("function -1", x.note(-1), -1);
        check.is("function 3", x.note(3), -1);
        check.is("no trace of them", x.trace(), Check.after(0, 4, 4, 5));
        Check.take(x, "n;w10012;p10012;d10012");
        check.is("the last one's number", x.note(2), 2);
        check.is("a double one at 0", x.note(0), 30);
    }

    private static void traceWraps() {
        NeededAnswers x = Check.with("n;w90012");
        int due = 0;
        for (int k = 0; k < 40; k++) {
            x.tell(0);
            due = Check.after(due, 3, 2, 1, 1);
            check.is("trace " + k, x.trace(), due);
        }
    }

    private static void asKinds() {
        NeededAnswers x = Check.with("n;p30012;d40012;w50012");
        for (int f = 0; f < 3; f++) {
            for (int kind = 0; kind < 3; kind++) {
                answersFault(x, f + " as " + kind, x.as(f, kind), kind <= f ? 1 : -12, kind <= f ? 0 : 2);
            }
            answersFault(x, "kind -1", x.as(f, -1), -2, 0);
            answersFault(x, "kind 3", x.as(f, 3), -2, 0);
        }
        x.as(0, 2);
        answersFault(x, "function -1", x.as(-1, 9), -1, 0);
        x.as(0, 2);
        answersFault(x, "function 3", x.as(3, 0), -1, 0);
    }

    private static void faultOfTheLatest() {
        NeededAnswers x = Check.with("n;p30012");
        x.constant(0);
        x.apply(0, 0, 0);
        x.as(0, 1);
        x.ofFunction(0, 0);
        x.constant(0);
        x.unknown(0);
        x.drop();
        x.ofTerm(0, 0);
        x.price(0, 1);
        x.given(0, 0);
        x.needs(0, 0);
        x.answers(0, 0);
        x.answer(0, 0, 0);
        x.reading(0, 0);
        x.back(0);
        x.kinds(0);
        x.branches(0);
        x.odds(0, 0, 0);
        x.lose(0);
        x.tell(0);
        x.note(0);
        x.trace();
        x.many(0);
        x.fault();
        check.is("calls that name none", x.fault(), 2);
        x.sheet(0, 0, 2);
        check.is("sheet does", x.fault(), 0);
        x.as(0, 1);
        x.put(0, 0, 0);
        check.is("put does", x.fault(), 0);
        x.as(0, 1);
        x.cell(0, 0, 0);
        check.is("cell does", x.fault(), 0);
        x.as(0, 1);
        x.copy(0, 0, 0, 0, 2);
        check.is("copy does", x.fault(), 0);
        x.as(0, 1);
        x.day(0, 0, 0, 1, 0);
        check.is("day does", x.fault(), 0);
        x.as(0, 1);
        x.functions(0, 0, 0, 2);
        check.is("functions does", x.fault(), 0);
        x.as(0, 1);
        x.as(0, 0);
        check.is("as does", x.fault(), 0);
    }

    private static void manyOfEach() {
        NeededAnswers x = Check.with("n;p30012;d20012");
        x.constant(0);
        x.constant(0);
        x.constant(0);
        x.given(1, 0);
        x.reading(1, 0);
        x.reading(1, 0);
        x.reading(1, 0);
        x.reading(1, 0);
        int[] due = {2, 3, 1, 4};
        for (int what = 0; what < 4; what++) {
            check.is("many " + what, x.many(what), due[what]);
        }
        check.is("many -1", x.many(-1), -2);
        check.is("many 4", x.many(4), -2);
        check.is("many -1 of none", new NeededAnswers().many(-1), -2);
    }

    private static void constants() {
        check.is("UNKNOWN", NeededAnswers.UNKNOWN, -1);
        check.is("OUTSIDE", NeededAnswers.OUTSIDE, -2);
        check.is("STATE", NeededAnswers.STATE, -3);
        check.is("FULL", NeededAnswers.FULL, -4);
        check.is("NONE", NeededAnswers.NONE, -9);
        check.is("LOST", NeededAnswers.LOST, LOST);
    }
}
