/** Promises 10 to 14: answers. */
public final class AnswersTest {
    private static final Check check = new Check("AnswersTest");

    public static void main(String[] args) {
        givenIsTold();
        needsOfLeaves();
        needsOfFunctions();
        needsThroughOthers();
        branchesOfEachTwig();
        oneAndTheSame();
        answersCounted();
        answersInOrder();
        answersWithGiven();
        answerPrices();
        widestRow();
        answersRefused();
        dayPlays();
        dayChangesNothing();
        dayFirstWrong();
        dayRefused();
        check.end();
    }

    private static void givenIsTold() {
        NeededAnswers none = new NeededAnswers();
        check.is("given without functions", none.given(9, 9), -3);
        NeededAnswers x = Check.with("n;p10000");
        check.is("x -1", x.given(-1, 0), -2);
        check.is("x 3", x.given(3, 0), -2);
        check.is("v -1", x.given(0, -1), -2);
        check.is("v 4", x.given(0, 4), -2);
        check.is("none given", x.many(2), 0);
        check.is("0 to 2", x.given(0, 2), 3);
        check.is("2 to 0", x.given(2, 0), 3);
        check.is("two given", x.many(2), 2);
        check.is("0 to 1", x.given(0, 1), 2);
        check.is("0 no more", x.given(0, 3), 1);
        check.is("0 still no more", x.given(0, 3), 3);
        check.is("one given", x.many(2), 1);
        check.is("2 no more", x.given(2, 3), 0);
    }

    private static void needsOfLeaves() {
        NeededAnswers x = Check.with("n;p10000");
        x.constant(2);
        x.unknown(1);
        check.needs(x, 0, 0, 2, 1);
        check.needs(x, 1, 1, 1, 2);
        x.given(1, 0);
        check.needs(x, 1, 0, 0, 2);
        x.given(1, 3);
        check.needs(x, 1, 1, 1, 2);
        check.is("term -1", x.needs(-1, 9), -1);
        check.is("term 2", x.needs(2, 0), -1);
        check.is("what -1", x.needs(0, -1), -2);
        check.is("what 3", x.needs(0, 3), -2);
    }

    private static void needsOfFunctions() {
        // Term 0 is unknown 0, term 1 unknown 1; the function branches at its second argument.
        NeededAnswers x = Check.with("n;p11of2;p10c20b1f0o");
        x.unknown(0);
        x.unknown(1);
        x.apply(0, 0, 1);
        x.apply(1, 0, 1);
        check.needs(x, 2, 1, 1, 0b0110);
        x.given(1, 0);
        check.needs(x, 2, 1, 0, 0b0111);
        x.given(0, 2);
        check.needs(x, 2, 0, 2, 0b0111);
        x.given(1, 1);
        check.needs(x, 2, 3, -9, 0b0110);
        x.given(1, 2);
        check.needs(x, 2, 0, 2, 0b0110);
        x.given(1, 3);
        check.needs(x, 3, 1, 1, 0b1011);
        x.given(0, 0);
        check.needs(x, 3, 2, 3, 0b1001);
        x.given(0, 1);
        check.needs(x, 3, 1, 1, 0b1011);
        x.given(1, 0);
        check.needs(x, 3, 0, 1, 0b1011);
        x.given(1, 1);
        check.needs(x, 3, 3, -9, 0b1011);
        x.given(1, 2);
        check.needs(x, 3, 0, 0, 0b1011);
    }

    private static void needsThroughOthers() {
        // Function 0 always chooses, function 1 always fails, function 2 hands on the other argument.
        NeededAnswers x = Check.with("n;p10c01c01c01;p10fff;p10ooo");
        x.constant(0);
        x.apply(0, 0, 0);
        x.apply(1, 0, 0);
        x.apply(2, 0, 1);
        x.apply(2, 1, 2);
        x.apply(2, 0, 2);
        check.needs(x, 1, 2, 1, 0b000011);
        check.needs(x, 2, 3, -9, 0b000101);
        check.needs(x, 3, 2, 1, 0b001011);
        check.needs(x, 4, 2, 1, 0b010011);
        check.needs(x, 5, 3, -9, 0b100101);
        x.drop();
        x.apply(2, 2, 1);
        check.needs(x, 5, 3, -9, 0b100101);
    }

    private static void branchesOfEachTwig() {
        // By (first, other): 1 2 0, f 1 0, 2 f 1; and a term that always fails.
        NeededAnswers x = Check.with("n;p10b120bf10b2f1;p10fff");
        x.unknown(0);
        x.unknown(1);
        x.apply(0, 0, 1);
        x.apply(1, 0, 0);
        x.apply(0, 0, 3);
        int[][] due = {{1, 2, 0}, {-9, 1, 0}, {2, -9, 1}};
        for (int first = 0; first <= 2; first++) {
            x.given(0, first);
            check.needs(x, 2, 1, 1, 0b00111);
            check.needs(x, 4, 3, -9, 0b11001);
            for (int other = 0; other <= 2; other++) {
                x.given(1, other);
                check.needs(x, 2, due[first][other] == -9 ? 3 : 0, due[first][other], 0b00111);
            }
            x.given(1, 3);
        }
    }

    private static void oneAndTheSame() {
        // A coin over itself: both sides are the one coin, so it is never unlike itself.
        NeededAnswers x = Check.with("n;p10c01c01c01;p10b1f0bf1f0");
        x.constant(0);
        x.apply(0, 0, 0);
        x.apply(1, 1, 1);
        check.is("stands", x.answers(2, 2), 3);
        check.is("answers", x.answers(2, 0), 2);
        check.is("values", x.answers(2, 1), 0b010);
        // Two coins: four ways, two of which fail.
        x.drop();
        x.apply(0, 0, 0);
        x.apply(1, 1, 2);
        check.is("stands of two coins", x.answers(3, 2), 7);
        check.is("answers of two coins", x.answers(3, 0), 2);
        check.is("picks of the first", x.answer(3, 0, 4) * 64 + x.answer(3, 0, 5), 0b0110 * 64);
        check.is("picks of the second", x.answer(3, 1, 4) * 64 + x.answer(3, 1, 5), 0b0110 * 64 + 0b0110);
        // Alike choices are two stands all the same.
        NeededAnswers y = Check.with("n;p10c22c22c22");
        y.constant(1);
        y.apply(0, 0, 0);
        check.is("alike: answers", y.answers(1, 0), 2);
        check.is("alike: values", y.answers(1, 1), 0b100);
        // One unknown by two terms is one unknown.
        NeededAnswers z = Check.with("n;p10b0ffbf1fbff2");
        z.unknown(2);
        z.unknown(2);
        z.apply(0, 0, 1);
        check.is("one unknown: stands", z.answers(2, 2), 4);
        check.is("one unknown: answers", z.answers(2, 0), 3);
    }

    private static void answersCounted() {
        NeededAnswers x = Check.with("n;p20c12fo");
        x.unknown(0);
        x.constant(1);
        x.apply(0, 0, 1);
        x.apply(0, 1, 1);
        int[][] due = {{3, 7, 4, 0}, {1, 2, 1, 0}, {3, 6, 6, 2}, {0, 0, 1, -9}};
        for (int t = 0; t < 4; t++) {
            for (int what = 0; what < 4; what++) {
                check.is("answers " + t + " " + what, x.answers(t, what), due[t][what]);
            }
        }
    }

    private static void answersInOrder() {
        // Unknown 0: 0 chooses of 1, 2; 1 fails; 2 hands on the constant 1. The shortest comes first.
        NeededAnswers x = Check.with("n;p20c12fo");
        x.unknown(0);
        x.constant(1);
        x.apply(0, 0, 1);
        int[][] due = {
            {1, 1, 2, 0b111, 0, 0, 2, 3, 3},
            {1, 2, 2, 0b101, 0b100, 0, 0, 3, 3},
            {2, 2, 2, 0b101, 0b100, 0b100, 0, 3, 3}};
        int[] what = {0, 1, 2, 3, 4, 5, 10, 11, 12};
        for (int k = 0; k < 3; k++) {
            for (int w = 0; w < what.length; w++) {
                check.is("answer " + k + " " + what[w], x.answer(2, k, what[w]), due[k][w]);
            }
        }
        for (int w : what) {
            check.is("no answer 3", x.answer(2, 3, w), -9);
            check.is("no answer at all", x.answer(2, Integer.MAX_VALUE, w), -9);
        }
    }

    private static void answersWithGiven() {
        NeededAnswers x = Check.with("n;p20c12fo");
        x.unknown(0);
        x.unknown(1);
        x.apply(0, 0, 1);
        x.given(0, 2);
        check.is("stands", x.answers(2, 2), 4);
        check.is("first value", x.answer(2, 0, 0), 0);
        check.is("given is no step", x.answer(2, 0, 1), 1);
        check.is("given is bound", x.answer(2, 0, 10), 2);
        check.is("bound", x.answer(2, 1, 11), 1);
        check.is("unneeded is not bound", x.answer(2, 1, 12), 3);
        x.given(2, 1);
        check.is("given though unneeded", x.answer(2, 1, 12), 1);
        check.is("nor is that a step", x.answer(2, 1, 1), 1);
        x.given(1, 0);
        check.is("no step at all", x.answer(2, 0, 1), 0);
        check.is("one stand", x.answers(2, 2), 1);
        x.given(0, 1);
        check.is("fails", x.answers(2, 0), 0);
        check.is("one stand that fails", x.answers(2, 2), 1);
        check.is("no price", x.answers(2, 3), -9);
    }

    private static void answerPrices() {
        // Term 3 looks at term 2 twice, which counts once; terms 0, 1 cost nothing.
        NeededAnswers x = Check.with("n;p30012;d40b012b012b012;w5001o");
        x.unknown(0);
        x.constant(1);
        x.apply(0, 0, 1);
        x.apply(1, 2, 2);
        x.apply(2, 0, 3);
        check.is("plain", x.answers(2, 3), 3);
        check.is("plain and dear", x.answers(3, 3), 8);
        check.is("the least", x.answers(4, 3), 10);
        check.is("price of 0", x.answer(4, 0, 2), 10);
        check.is("price of 1", x.answer(4, 1, 2), 10);
        check.is("price of 2", x.answer(4, 2, 2), 18);
        check.is("looked at by 0", x.answer(4, 0, 3), 0b10001);
        check.is("looked at by 2", x.answer(4, 2, 3), 0b11101);
        x.price(1, 9);
        check.is("price of 2 then", x.answer(4, 2, 2), 23);
        x.given(0, 2);
        check.is("the least then", x.answers(4, 3), 23);
    }

    private static void widestRow() {
        // A coin over each of two unknowns, and a function that needs both coins.
        NeededAnswers x = Check.with("n;p10b012b012b012;p10c00c11c22");
        x.unknown(0);
        x.unknown(1);
        x.unknown(2);
        x.apply(1, 0, 0);
        x.apply(1, 1, 1);
        x.apply(0, 3, 4);
        check.is("two unknowns, two coins", x.answers(5, 2), 1 + 3 + 6 + 18 + 36);
        check.is("their answers", x.answers(5, 0), 36);
        // A coin over all three unknowns, one behind another.
        NeededAnswers y = Check.with("n;p10ooo;p10c01c01c01");
        y.unknown(0);
        y.unknown(1);
        y.unknown(2);
        y.apply(0, 0, 1);
        y.apply(0, 3, 2);
        y.apply(1, 4, 4);
        check.is("three unknowns, one coin", y.answers(5, 2), 1 + 3 + 9 + 27 + 54);
        check.is("their answers", y.answers(5, 0), 54);
        check.is("the last one's steps", y.answer(5, 53, 1), 4);
        check.is("the last one's unknowns", y.answer(5, 53, 10) * 9 + y.answer(5, 53, 11) * 3 + y.answer(5, 53, 12), 26);
        check.is("the last one's pick", y.answer(5, 53, 5), 0b100000);
        check.is("one beyond", y.answer(5, 54, 0), -9);
    }

    private static void answersRefused() {
        NeededAnswers x = Check.with("n;p10012");
        x.constant(0);
        check.is("answers of -1", x.answers(-1, 9), -1);
        check.is("answers of 1", x.answers(1, 0), -1);
        check.is("answers what -1", x.answers(0, -1), -2);
        check.is("answers what 4", x.answers(0, 4), -2);
        check.is("answer of -1", x.answer(-1, -1, 9), -1);
        check.is("answer of 1", x.answer(1, 0, 0), -1);
        check.is("answer -1", x.answer(0, -1, 0), -2);
        for (int what : new int[] {-1, 6, 9, 13, Integer.MIN_VALUE, Integer.MAX_VALUE}) {
            check.is("answer what " + what, x.answer(0, 0, what), -2);
            check.is("OUTSIDE ahead of NONE", x.answer(0, 5, what), -2);
        }
    }

    private static void dayPlays() {
        NeededAnswers x = Made.beforeADay();
        check.day(x, new int[] {}, 4, -9, 9, 7, 6, 3, 3, 3);
        check.day(x, new int[] {2, 0}, 4, -9, 3, 7, 6, 2, 3, 3);
        check.day(x, new int[] {1, 0}, 4, -9, 0, 0, -9, 1, 3, 3);
        check.day(x, new int[] {1, 0, 0, 0, 3, 0, 1, 1}, 4, -9, 3, 2, 6, 3, 1, 3);
        check.day(x, new int[] {9, 10}, 4, -9, 9, 7, 13, 3, 3, 3);
        check.day(x, new int[] {9, 11, 1, 11}, 4, -9, 9, 7, 4, 3, 3, 3);
        check.day(x, new int[] {0, 20}, 3, -9, 5, 7, 2, 3, 3, 3);
        check.day(x, new int[] {0, 20, 0, 2, 0, 20}, 2, -9, 3, 7, 0, 3, 3, 0);
        check.day(x, new int[] {0, 20, 0, 20, 0, 20, 0, 20, 2, 1}, 0, -9, -9, -9, -9, 3, 2, 3);
        x.given(0, 2);
        check.day(x, new int[] {}, 4, -9, 3, 7, 6, 2, 3, 3);
        check.day(x, new int[] {3, 0}, 4, -9, 9, 7, 6, 3, 3, 3);
        // A day may stand anywhere in a sheet, of any lane, and be 20 acts long.
        int[] long20 = new int[42];
        for (int k = 1; k < 41; k += 2) {
            long20[k] = 1 + k % 9;
            long20[k + 1] = 10;
        }
        for (int lane = 0; lane <= 2; lane++) {
            Check.lay(x, 0, lane, long20);
            check.is("twenty acts", x.day(0, lane, 1, 20, 4), 4 + 1 + 39 % 9);
            check.is("none of them at the end", x.day(0, lane, 42, 0, 4), 6);
        }
    }

    private static void dayChangesNothing() {
        NeededAnswers x = Made.beforeADay();
        x.given(1, 1);
        x.reading(3, 6);
        Check.lay(x, 0, 0, 9, 10, 8, 11, 2, 0, 3, 1, 0, 20, 0, 20);
        check.is("a day", x.day(0, 0, 0, 6, 0), 2);
        check.is("price 0", x.ofFunction(0, 1), 2);
        check.is("price 1", x.ofFunction(1, 1), 3);
        check.is("terms", x.many(1), 4);
        check.is("readings", x.many(3), 1);
        check.is("given 0", x.given(0, 3), 3);
        check.is("given 1", x.given(1, 1), 1);
        check.is("kinds as ever", x.kinds(0), 1);
        check.is("the day as told", x.cell(0, 0, 0), 9);
    }

    private static void dayFirstWrong() {
        NeededAnswers x = Made.beforeADay();
        check.day(x, new int[] {5, 12}, -100, 0, -100, -100, -100, -100, -100, -100);
        check.day(x, new int[] {1, 0, 5, 12, 0, 20}, -101, 1, -101, -101, -101, -101, -101, -101);
        int[] five = {0, 20, 0, 20, 0, 20, 0, 20, 0, 20, 0, 20};
        check.day(x, five, -104, 4, -104, -104, -104, -104, -104, -104);
        Check.lay(x, 0, 0, 5, 12, 4, 0);
        check.is("refused for a later pair", x.day(0, 0, 0, 2, 1), -2);
        check.is("not for one that is not of it", x.day(0, 0, 0, 1, 1), 0);
        check.is("nothing is dropped", x.many(1), 4);
    }

    private static void dayRefused() {
        NeededAnswers none = new NeededAnswers();
        check.is("nothing there", none.day(0, 0, 0, 0, 0), -11);
        check.is("fault NULL", none.fault(), 1);
        Check.lay(none, 0, 0, 7, 7);
        check.is("no functions", none.day(0, 0, 0, 1, 0), -3);
        check.is("INDEX ahead of STATE", none.day(0, 0, 0, 2, 0), -13);
        NeededAnswers x = Made.beforeADay();
        Check.lay(x, 0, 1, 0, 0, 0, 0);
        check.is("sheet -1", x.day(-1, 9, 0, 99, 99), -1);
        check.is("sheet 4", x.day(4, 1, 0, 1, 0), -1);
        check.is("lane -1", x.day(0, -1, 0, 1, 0), -2);
        check.is("lane 3", x.day(0, 3, 0, 1, 0), -2);
        check.is("n -1", x.day(0, 1, 0, -1, 0), -2);
        check.is("n 21", x.day(2, 1, 0, 21, 0), -2);
        for (int what : new int[] {-1, 5, 9, 13}) {
            check.is("what " + what, x.day(0, 0, 0, 1, what), -2);
        }
        check.is("CAST", x.day(0, 2, -1, 1, 0), -12);
        check.is("fault CAST", x.fault(), 2);
        check.is("NULL", x.day(1, 2, -1, 1, 0), -11);
        check.is("n 20, not there", x.day(0, 1, 0, 20, 0), -13);
        int[][] beyond = {{-1, 0}, {5, 0}, {3, 1}, {0, 3}, {4, 1}, {Integer.MAX_VALUE, 1}, {Integer.MIN_VALUE, 2}};
        for (int[] b : beyond) {
            check.is("INDEX " + b[0] + " " + b[1], x.day(0, 1, b[0], b[1], 0), -13);
            check.is("fault INDEX", x.fault(), 3);
        }
        check.is("a day", x.day(0, 1, 0, 2, 0), 4);
        check.is("no fault", x.fault(), 0);
        int[][] wrong = {{0, -1}, {0, 3}, {1, 9}, {1, 13}, {0, 19}, {0, 21}, {-1, 0}, {4, 2}, {0, 10}, {10, 12}, {1, 20},
            {-1, 20}};
        for (int[] pair : wrong) {
            Check.lay(x, 0, 1, 0, 0, pair[0], pair[1]);
            check.is("pair " + pair[0] + " " + pair[1], x.day(0, 1, 0, 2, 1), -2);
            check.is("it again, first", x.day(0, 1, 2, 1, 0), -2);
            check.is("it is no fault", x.fault(), 0);
        }
    }
}
