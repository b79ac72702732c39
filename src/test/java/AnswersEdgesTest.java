/** The boundary cases that block 2 and promises 10 to 14 name; what is refused there is in RefusalsTest. */
public final class AnswersEdgesTest {
    private static final int LEAST = Integer.MIN_VALUE, MOST = Integer.MAX_VALUE;
    private static final Check check = new Check("AnswersEdgesTest");

    public static void main(String[] args) {
        givenEachNumberAndNoMore();
        needsOfEachOutcome();
        aTermIsLookedAtJustWhereItIsNeeded();
        aStandOfItsOwn();
        noAnswers();
        theFullestRow();
        allOfThreeUnknowns();
        theFirstAnswerAndTheLast();
        givenOnesAreBoundButNoSteps();
        givenOnesMakeTheRowShorter();
        pricesWhereSomethingIsGiven();
        theLeastAndTheMostPrice();
        eachChoice();
        eachPart();
        aDayOfNoPairs();
        aDayOfTwentyPairs();
        aDayAtBothEndsOfASheet();
        theLastNumbersThatAPairTakes();
        pairsAreWhatTheLaneLeavesOfThem();
        firstWrongByFunctions();
        firstWrongByTerms();
        firstWrongIsTheFirst();
        outsideAheadOfFirstWrong();
        aDayWithoutTerms();
        aDayFromHowAllIsNow();
        aDayChangesNothing();
        check.end();
    }

    private static void answersAre(NeededAnswers x, int t, int... due) {
        for (int what = 0; what <= 3; what++) {
            check.is("answers " + t + " " + what, x.answers(t, what), due[what]);
        }
    }

    /** Of answer k: value, steps, price, looked at, picked, second, and what unknowns 0, 1, 2 are bound to. */
    private static void answerIs(NeededAnswers x, int t, int k, int... due) {
        int[] what = {0, 1, 2, 3, 4, 5, 10, 11, 12};
        for (int w = 0; w < what.length; w++) {
            check.is("answer " + t + " " + k + " " + what[w], x.answer(t, k, what[w]), due[w]);
        }
    }

    /** "GIVEN v (0 .. 2; 3: it is GIVEN no more): what it was GIVEN (3: nothing)." */
    private static void givenEachNumberAndNoMore() {
        for (int u = 0; u <= 2; u++) {
            NeededAnswers x = Check.with("n;p10000");
            x.unknown(u);
            check.is("no more, though it never was", x.given(u, 3), 3);
            check.is("none", x.many(2), 0);
            int was = 3;
            for (int v = 0; v <= 2; v++) {
                check.is("given " + v, x.given(u, v), was);
                check.is("one", x.many(2), 1);
                check.needs(x, 0, 0, v, 1);
                was = v;
            }
            check.is("the same again", x.given(u, 2), 2);
            check.is("no more", x.given(u, 3), 2);
            check.is("none again", x.many(2), 0);
            check.needs(x, 0, 1, u, 1);
        }
        NeededAnswers x = Check.with("n;p10000");
        for (int u = 0; u <= 2; u++) {
            x.given(u, 2 - u);
            check.is("many given", x.many(2), u + 1);
        }
        for (int u = 0; u <= 2; u++) {
            check.is("each its own", x.given(u, 3), 2 - u);
            check.is("many left", x.many(2), 2 - u);
        }
    }

    /** 0 nothing, 1 an UNKNOWN one, 2 a TERM to be PICKED, 3 it FAILS (NONE). */
    private static void needsOfEachOutcome() {
        NeededAnswers x = Check.with("n;p10c00c11c22;p10fff;p10ooo");
        for (int v = 0; v <= 2; v++) {
            x.constant(v);
            check.needs(x, v, 0, v, 1 << v);
        }
        x.apply(0, 2, 0);
        check.needs(x, 3, 2, 3, 0b001100);
        x.apply(1, 1, 0);
        check.needs(x, 4, 3, -9, 0b010010);
        x.apply(2, 3, 4);
        check.needs(x, 5, 2, 3, 0b101100);
        NeededAnswers y = Check.with("n;p10c00c11c22;p10fff;p10ooo");
        for (int u = 0; u <= 2; u++) {
            y.unknown(u);
            check.needs(y, u, 1, u, 1 << u);
        }
        y.apply(2, 0, 1);
        y.apply(2, 3, 2);
        check.needs(y, 4, 1, 0, 0b11001);
        y.given(0, 0);
        check.needs(y, 4, 1, 1, 0b11011);
        y.given(1, 0);
        check.needs(y, 4, 1, 2, 0b11111);
        y.given(2, 1);
        check.needs(y, 4, 0, 1, 0b11111);
    }

    /** "LOOKED AT are this TERM, and all that are LOOKED AT so, and no others." */
    private static void aTermIsLookedAtJustWhereItIsNeeded() {
        String[] twigs = {"0", "o", "f", "c01", "b012"};
        int[] looked = {0b0101, 0b0111, 0b0101, 0b0101, 0b0111};
        int[] need = {0, 1, 3, 2, 1};
        int[] which = {0, 1, -9, 2, 1};
        for (int k = 0; k < twigs.length; k++) {
            for (int argument = 0; argument <= 1; argument++) {
                NeededAnswers x = Check.with("n;p1" + argument + twigs[k] + twigs[k] + twigs[k]);
                x.constant(2);
                x.unknown(1);
                x.apply(0, argument, 1 - argument);
                check.needs(x, 2, need[k], which[k], looked[k]);
            }
        }
    }

    /** A row of one STAND: nothing is needed, or it fails. */
    private static void aStandOfItsOwn() {
        NeededAnswers x = Check.with("n;p40ff2");
        x.constant(0);
        x.constant(2);
        x.apply(0, 0, 0);
        x.apply(0, 1, 0);
        answersAre(x, 0, 1, 0b001, 1, 0);
        answersAre(x, 1, 1, 0b100, 1, 0);
        answersAre(x, 2, 0, 0, 1, -9);
        answersAre(x, 3, 1, 0b100, 1, 4);
        answerIs(x, 3, 0, 2, 0, 4, 0b1010, 0, 0, 3, 3, 3);
    }

    /** No ANSWERS: 0, an empty set, NONE; no answer 0. */
    private static void noAnswers() {
        NeededAnswers x = Check.with("n;p10fff;p10c01c01c01");
        x.unknown(0);
        x.apply(1, 0, 0);
        x.apply(0, 1, 1);
        answersAre(x, 2, 0, 0, 1 + 3 + 6, -9);
        for (int what : new int[] {0, 1, 2, 3, 4, 5, 10, 11, 12}) {
            check.is("answer 0, " + what, x.answer(2, 0, what), -9);
            check.is("a far answer, " + what, x.answer(2, MOST, what), -9);
        }
        check.needs(x, 2, 1, 0, 0b111);
    }

    /** One unknown and a choice by each of five terms, one behind another: no six terms need more stands. */
    private static void theFullestRow() {
        NeededAnswers x = Check.with("n;p10c01c12c20");
        x.unknown(2);
        for (int t = 0; t < 5; t++) {
            x.apply(0, t, t);
        }
        answersAre(x, 5, 96, 7, 1 + 3 + 6 + 12 + 24 + 48 + 96, 5);
        answerIs(x, 5, 0, 0, 6, 5, 63, 62, 0, 3, 3, 0);
        answerIs(x, 5, 95, 1, 6, 5, 63, 62, 62, 3, 3, 2);
        check.is("one beyond", x.answer(5, 96, 0), -9);
        for (int k = 0; k < 96; k++) {
            check.is("unknown 2 by answer " + k, x.answer(5, k, 12), k / 32);
            int second = x.answer(5, k, 5);
            check.is("picks by answer " + k, Integer.reverse(second) >>> 26, k % 32);
        }
    }

    private static void allOfThreeUnknowns() {
        NeededAnswers x = Check.with("n;p10ooo;d20ooo");
        for (int u = 0; u <= 2; u++) {
            x.unknown(u);
        }
        x.apply(0, 2, 0);
        x.apply(1, 3, 1);
        answersAre(x, 4, 27, 7, 1 + 3 + 9 + 27, 4);
        for (int k = 0; k < 27; k++) {
            answerIs(x, 4, k, k % 3, 3, 4, 31, 0, 0, k / 3 % 3, k % 3, k / 9);
        }
        check.is("one beyond", x.answer(4, 27, 1), -9);
    }

    /** "ANSWERS are numbered from 0 on, in this order": the fewest steps first, then as the row has them. */
    private static void theFirstAnswerAndTheLast() {
        // By unknown 0: 0 a choice of 2, 0; 1 at once; 2 unknown 1.
        NeededAnswers x = Check.with("n;w50c201o");
        x.unknown(0);
        x.unknown(1);
        x.apply(0, 0, 1);
        answersAre(x, 2, 6, 7, 9, 10);
        answerIs(x, 2, 0, 1, 1, 10, 0b101, 0, 0, 1, 3, 3);
        answerIs(x, 2, 1, 2, 2, 10, 0b101, 4, 0, 0, 3, 3);
        answerIs(x, 2, 2, 0, 2, 10, 0b101, 4, 4, 0, 3, 3);
        answerIs(x, 2, 3, 0, 2, 10, 0b111, 0, 0, 2, 0, 3);
        answerIs(x, 2, 5, 2, 2, 10, 0b111, 0, 0, 2, 2, 3);
        check.is("answer 6", x.answer(2, 6, 0), -9);
        check.is("answer -1", x.answer(2, -1, 0), -2);
        check.is("answer of the least int", x.answer(2, LEAST, 0), -2);
    }

    /** "At first the one in which nothing is bound but what is GIVEN": that is bound ahead of all steps. */
    private static void givenOnesAreBoundButNoSteps() {
        NeededAnswers x = Check.with("n;w50c201o");
        x.unknown(0);
        x.unknown(1);
        x.apply(0, 0, 1);
        x.given(0, 2);
        answersAre(x, 2, 3, 7, 4, 10);
        answerIs(x, 2, 1, 1, 1, 10, 0b111, 0, 0, 2, 1, 3);
        x.given(2, 0);
        answerIs(x, 2, 1, 1, 1, 10, 0b111, 0, 0, 2, 1, 0);
        x.given(1, 2);
        answersAre(x, 2, 1, 0b100, 1, 10);
        answerIs(x, 2, 0, 2, 0, 10, 0b111, 0, 0, 2, 2, 0);
        x.given(0, 0);
        answersAre(x, 2, 2, 0b101, 3, 10);
        answerIs(x, 2, 1, 0, 1, 10, 0b101, 4, 4, 0, 2, 0);
        x.given(0, 3);
        answersAre(x, 2, 4, 7, 6, 10);
        answerIs(x, 2, 0, 1, 1, 10, 0b101, 0, 0, 1, 2, 0);
        answerIs(x, 2, 1, 2, 1, 10, 0b111, 0, 0, 2, 2, 0);
        answerIs(x, 2, 3, 0, 2, 10, 0b101, 4, 4, 0, 2, 0);
    }

    private static void givenOnesMakeTheRowShorter() {
        NeededAnswers x = Check.with("n;p10ooo");
        for (int u = 0; u <= 2; u++) {
            x.unknown(u);
        }
        x.apply(0, 0, 1);
        x.apply(0, 3, 2);
        int[] stands = {40, 13, 4, 1};
        int[] answers = {27, 9, 3, 1};
        for (int given = 0; given <= 3; given++) {
            check.is("stands, given " + given, x.answers(4, 2), stands[given]);
            check.is("answers, given " + given, x.answers(4, 0), answers[given]);
            check.is("steps of the last", x.answer(4, answers[given] - 1, 1), 3 - given);
            check.is("one beyond", x.answer(4, answers[given], 1), -9);
            x.given(given % 3, 1);
        }
    }

    /** PRICE by what is LOOKED AT there, "each TERM once". */
    private static void pricesWhereSomethingIsGiven() {
        // Function 2 looks at its second argument if the first is 2, and at nothing else if it is not.
        NeededAnswers x = Check.with("n;p30ooo;d40b012b012b012;w5001o");
        x.unknown(0);
        x.apply(0, 0, 0);
        x.apply(1, 1, 1);
        x.apply(2, 0, 2);
        check.is("the least of all", x.answers(3, 3), 10);
        x.given(0, 2);
        check.is("the least of one", x.answers(3, 3), 10 + 5 + 3);
        answerIs(x, 3, 0, 2, 0, 18, 0b1111, 0, 0, 2, 3, 3);
        x.given(0, 1);
        answerIs(x, 3, 0, 1, 0, 10, 0b1001, 0, 0, 1, 3, 3);
        x.price(2, 9);
        check.is("a price told anew", x.answers(3, 3), 18);
        x.given(0, 3);
        answerIs(x, 3, 2, 2, 1, 26, 0b1111, 0, 0, 2, 3, 3);
    }

    private static void theLeastAndTheMostPrice() {
        NeededAnswers x = Check.with("n;w90ooo;p10012");
        x.unknown(0);
        check.is("no function at all", x.answers(0, 3), 0);
        x.apply(1, 0, 0);
        check.is("the cheapest function", x.answers(1, 3), 1);
        x.drop();
        for (int t = 0; t < 5; t++) {
            x.apply(0, t, t);
        }
        check.is("five of the dearest", x.answers(5, 3), 90);
        check.is("by an answer", x.answer(5, 2, 2), 90);
    }

    /** "A CHOICE of these, the first one, the second one; perhaps alike": two STANDS, whichever they are. */
    private static void eachChoice() {
        for (int first = 0; first <= 2; first++) {
            for (int second = 0; second <= 2; second++) {
                for (int v = 0; v <= 2; v++) {
                    String[] twigs = {"f", "f", "f"};
                    twigs[v] = "c" + first + second;
                    NeededAnswers x = Check.with("n;p10" + String.join("", twigs));
                    x.constant(v);
                    x.apply(0, 0, 0);
                    check.needs(x, 1, 2, 1, 3);
                    answersAre(x, 1, 2, 1 << first | 1 << second, 3, 1);
                    answerIs(x, 1, 0, first, 1, 1, 3, 2, 0, 3, 3, 3);
                    answerIs(x, 1, 1, second, 1, 1, 3, 2, 2, 3, 3, 3);
                }
            }
        }
    }

    /** BRANCHES "as the first time, by the other ARGUMENT": each part of each twig, a VALUE or a failure. */
    private static void eachPart() {
        String ends = "012f";
        for (int v = 0; v <= 2; v++) {
            for (int w = 0; w <= 2; w++) {
                for (int end = 0; end <= 3; end++) {
                    char[] parts = "bfffbfffbfff".toCharArray();
                    parts[4 * v + 1 + w] = ends.charAt(end);
                    NeededAnswers x = Check.with("n;p10" + new String(parts));
                    x.unknown(0);
                    x.unknown(1);
                    x.apply(0, 0, 1);
                    answersAre(x, 2, end == 3 ? 0 : 1, end == 3 ? 0 : 1 << end, 13, end == 3 ? -9 : 1);
                    if (end < 3) answerIs(x, 2, 0, end, 2, 1, 7, 0, 0, v, w, 3);
                }
            }
        }
    }

    private static void wrongFrom(NeededAnswers x, int[] cells, int first) {
        int wrong = -100 - first;
        check.day(x, cells, wrong, first, wrong, wrong, wrong, wrong, wrong, wrong);
        check.is("it is no fault", x.fault(), 0);
    }

    /** n is 0: all is as it is now; i may be 0 .. how many cells there are. */
    private static void aDayOfNoPairs() {
        NeededAnswers x = Made.beforeADay();
        check.day(x, new int[] {}, 4, -9, 9, 7, 6, 3, 3, 3);
        for (int size : new int[] {0, 1, 60}) {
            x.sheet(0, 1, size);
            for (int i = 0; i <= size; i++) {
                check.is("none from " + i + " of " + size, x.day(0, 1, i, 0, 4), 6);
            }
            for (int i : new int[] {-1, size + 1, LEAST, MOST}) {
                check.is("none from " + i + " of " + size, x.day(0, 1, i, 0, 4), -13);
                check.is("its fault", x.fault(), 3);
            }
        }
    }

    private static int[] prices(int pairs, int last) {
        int[] cells = new int[2 * pairs];
        for (int k = 0; k < pairs; k++) {
            cells[2 * k] = 1 + k % 9;
            cells[2 * k + 1] = 10;
        }
        cells[2 * pairs - 2] = last;
        return cells;
    }

    /** "n (0 .. 20)": the twentieth pair is played, a twenty-first is not taken. */
    private static void aDayOfTwentyPairs() {
        NeededAnswers x = Made.beforeADay();
        check.day(x, prices(20, 9), 4, -9, 9, 7, 13, 3, 3, 3);
        check.day(x, prices(1, 9), 4, -9, 9, 7, 13, 3, 3, 3);
        Check.lay(x, 0, 2, prices(21, 9));
        check.is("twenty of them", x.day(0, 2, 2, 20, 4), 13);
        check.is("the first twenty", x.day(0, 2, 0, 20, 4), 4 + 1 + 19 % 9);
        check.is("all of them", x.day(0, 2, 0, 21, 4), -2);
        int[] twenty = prices(20, 1);
        twenty[38] = 0;
        twenty[39] = 20;
        check.day(x, twenty, 3, -9, 5, 7, 1 + 18 % 9, 3, 3, 3);
        twenty[38] = 1;
        twenty[39] = 12;
        wrongFrom(x, twenty, 19);
    }

    private static void aDayAtBothEndsOfASheet() {
        NeededAnswers x = Made.beforeADay();
        for (int lane = 0; lane <= 2; lane++) {
            x.sheet(0, lane, 60);
            for (int k = 0; k < 20; k++) {
                x.put(0, 20 + 2 * k, 1 + k % 9);
                x.put(0, 21 + 2 * k, 11);
            }
            x.put(0, 0, 2);
            // The last pair tells the price 2 of function 1, a dear one; function 0 costs 2.
            check.is("its last 40 cells", x.day(0, lane, 20, 20, 4), 3 + 2);
            check.is("one cell on", x.day(0, lane, 21, 20, 4), -13);
            check.is("its last two", x.day(0, lane, 58, 1, 4), 3 + 2);
            check.is("its last one", x.day(0, lane, 59, 1, 4), -13);
            check.is("its first two", x.day(0, lane, 0, 1, 10), 2);
            check.is("one cell back", x.day(0, lane, -1, 1, 10), -13);
        }
    }

    /** A VALUE (0 .. 2; 3: none) and 0 .. 2; a PRICE (1 .. 9) and 10 .. 12; 0 and 20. */
    private static void theLastNumbersThatAPairTakes() {
        for (int u = 0; u <= 2; u++) {
            NeededAnswers x = Check.with("n;p10000;p10000;p10000");
            x.unknown(u);
            x.given(u, 1);
            int[] due = {3, 3, 3};
            for (int v = 0; v <= 3; v++) {
                due[u] = v;
                check.day(x, new int[] {v, u}, 1, -9, v == 3 ? 3 : 1, v == 3 ? 7 : 1 << v, 0, due[0], due[1], due[2]);
            }
            for (int v : new int[] {-1, 4, LEAST, MOST}) {
                check.day(x, new int[] {v, u}, -2, -2, -2, -2, -2, -2, -2, -2);
            }
        }
        for (int f = 0; f <= 2; f++) {
            NeededAnswers x = Check.with("n;p50000;d50000;w50000");
            x.constant(0);
            x.apply(f, 0, 0);
            for (int v = 1; v <= 9; v++) {
                int cost = f == 0 ? v : f == 1 ? v + 1 : 2 * v;
                check.day(x, new int[] {v, 10 + f}, 2, -9, 1, 1, cost, 3, 3, 3);
            }
            for (int v : new int[] {0, 10, -1, LEAST, MOST}) {
                check.day(x, new int[] {v, 10 + f}, -2, -2, -2, -2, -2, -2, -2, -2);
            }
        }
        NeededAnswers x = Made.beforeADay();
        check.day(x, new int[] {0, 20}, 3, -9, 5, 7, 2, 3, 3, 3);
        for (int[] pair : new int[][] {{1, 20}, {-1, 20}, {0, 19}, {0, 21}, {0, 3}, {0, -1}, {1, 9}, {1, 13}}) {
            check.day(x, pair, -2, -2, -2, -2, -2, -2, -2, -2);
        }
    }

    private static void pairsAreWhatTheLaneLeavesOfThem() {
        for (int lane = 0; lane <= 2; lane++) {
            for (int off : new int[] {256, -256, 65536, -65536}) {
                boolean left = lane == 0 || lane == 1 && off % 65536 == 0;
                NeededAnswers x = Made.beforeADay();
                Check.lay(x, 0, lane, 2 + off, 0);
                check.is("the first cut", x.day(0, lane, 0, 1, 10), left ? 2 : -2);
                Check.lay(x, 0, lane, 2, off);
                check.is("the second cut", x.day(0, lane, 0, 1, 10), left ? 2 : -2);
            }
        }
    }

    /** "The first act that can't be (there is no such FUNCTION ..)": a price of one that is not there. */
    private static void firstWrongByFunctions() {
        String[] texts = {"n;p10000", "n;p10000;p10000", "n;p10000;p10000;p10000"};
        for (int many = 1; many <= 3; many++) {
            NeededAnswers x = Check.with(texts[many - 1]);
            x.constant(0);
            for (int f = 0; f <= 2; f++) {
                int[] cells = {5, 10 + f};
                if (f < many) check.day(x, cells, 1, -9, 1, 1, 0, 3, 3, 3);
                else wrongFrom(x, cells, 0);
            }
        }
    }

    /** ".. (no TERM)": one more is taken away than there are. */
    private static void firstWrongByTerms() {
        for (int terms = 0; terms <= 6; terms++) {
            NeededAnswers x = Check.with("n;p10000");
            for (int t = 0; t < terms; t++) {
                x.constant(t % 3);
            }
            int[] drops = new int[2 * terms + 2];
            for (int k = 0; k <= terms; k++) {
                drops[2 * k + 1] = 20;
            }
            wrongFrom(x, drops, terms);
            check.day(x, java.util.Arrays.copyOf(drops, 2 * terms), 0, -9, -9, -9, -9, 3, 3, 3);
            check.is("all are still there", x.many(1), terms);
        }
    }

    private static void firstWrongIsTheFirst() {
        NeededAnswers x = Made.beforeADay();
        wrongFrom(x, new int[] {5, 12, 5, 12, 0, 20}, 0);
        wrongFrom(x, new int[] {5, 11, 5, 12, 5, 12}, 1);
        wrongFrom(x, new int[] {0, 20, 0, 20, 0, 20, 0, 20, 1, 12, 0, 20}, 4);
        wrongFrom(x, new int[] {0, 20, 0, 20, 0, 20, 0, 20, 0, 20, 1, 12}, 4);
        wrongFrom(x, new int[] {0, 0, 3, 0, 9, 12}, 2);
    }

    /** A pair that is not as told refuses the call, even behind an act that can't be. */
    private static void outsideAheadOfFirstWrong() {
        NeededAnswers x = Made.beforeADay();
        for (int what : Check.DAY_WHAT) {
            Check.lay(x, 0, 0, 5, 12, 4, 0);
            check.is("behind it", x.day(0, 0, 0, 2, what), -2);
            check.is("not in it", x.day(0, 0, 0, 1, what), what == 1 ? 0 : -100);
            Check.lay(x, 0, 0, 4, 0, 5, 12);
            check.is("ahead of it", x.day(0, 0, 0, 2, what), -2);
        }
    }

    /** "NONE: there is no TERM." */
    private static void aDayWithoutTerms() {
        NeededAnswers x = Check.with("n;p10000");
        check.day(x, new int[] {}, 0, -9, -9, -9, -9, 3, 3, 3);
        check.day(x, new int[] {2, 1, 9, 10}, 0, -9, -9, -9, -9, 3, 2, 3);
        wrongFrom(x, new int[] {2, 1, 0, 20}, 1);
        // A term with no answers is another thing: none of them, the empty set, and NONE for their price.
        NeededAnswers y = Check.with("n;p10fff");
        y.constant(0);
        y.apply(0, 0, 0);
        check.day(y, new int[] {}, 2, -9, 0, 0, -9, 3, 3, 3);
        check.day(y, new int[] {0, 20}, 1, -9, 1, 1, 0, 3, 3, 3);
    }

    private static void aDayFromHowAllIsNow() {
        NeededAnswers x = Made.beforeADay();
        x.given(0, 2);
        x.given(2, 1);
        x.price(0, 9);
        check.day(x, new int[] {}, 4, -9, 3, 7, 13, 2, 3, 1);
        check.day(x, new int[] {3, 2}, 4, -9, 3, 7, 13, 2, 3, 3);
        check.day(x, new int[] {3, 0, 3, 2, 1, 10}, 4, -9, 9, 7, 5, 3, 3, 3);
        check.day(x, new int[] {1, 0}, 4, -9, 0, 0, -9, 1, 3, 1);
        check.day(x, new int[] {1, 0, 0, 0, 3, 0, 2, 0}, 4, -9, 3, 7, 13, 2, 3, 1);
    }

    /** "(Nothing is changed)", by a day that can be and by one with a FIRST WRONG. */
    private static void aDayChangesNothing() {
        int[][] days = {{1, 0, 9, 10, 9, 11, 9, 12, 0, 20, 2, 1}, {2, 2, 0, 20, 0, 20, 0, 20, 0, 20, 0, 20}};
        for (int[] cells : days) {
            for (int what : Check.DAY_WHAT) {
                NeededAnswers played = Made.busy();
                NeededAnswers twin = Made.busy();
                Check.lay(played, 2, 2, cells);
                Check.lay(twin, 2, 2, cells);
                played.day(2, 2, 0, 6, what);
                String unlike = Whole.firstUnlike(Whole.byDrops(played), Whole.byDrops(twin));
                check.is("a day changed " + unlike, unlike.length(), 0);
            }
        }
    }
}
