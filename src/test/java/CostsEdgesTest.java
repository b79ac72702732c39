/** The boundary cases that block 3 and promises 15 to 19 name; what is refused there is in RefusalsTest. */
public final class CostsEdgesTest {
    private static final Check check = new Check("CostsEdgesTest");

    public static void main(String[] args) {
        eightReadingsAtMost();
        backMakesRoomAgain();
        backFromNoneToAll();
        theLastCostsThatAreTaken();
        noneAsAReading();
        zeroAsAReading();
        withoutReadingsAllKindsAndBranches();
        noKindAndNoBranchIsLeft();
        allReadingsMustBeSo();
        oneFunctionAloneIsPutInPlace();
        branchesOfNoneOfOneOfBoth();
        oneThatNoReadingHangsOn();
        theMostThatAnswersCost();
        oddsOfAFailure();
        oddsOfNothingAndOfAll();
        oddsAreInLeastTerms();
        oddsOfTheManiestThrows();
        oddsWhereSomethingIsGiven();
        oddsOfOneAndTheSame();
        askingChangesNothing();
        check.end();
    }

    private static NeededAnswers withATerm(String text) {
        NeededAnswers x = Check.with(text);
        x.constant(0);
        x.apply(0, 0, 0);
        return x;
    }

    /** READINGS, "8 at most, numbered by how many there are". */
    private static void eightReadingsAtMost() {
        NeededAnswers x = withATerm("n;p10000");
        for (int k = 0; k < 8; k++) {
            check.is("many ahead", x.many(3), k);
            check.is("reading " + k, x.reading(k % 2, k % 2), k);
        }
        check.is("eight", x.many(3), 8);
        check.is("a ninth", x.reading(0, 0), -4);
        check.is("a ninth of the same", x.reading(1, 1), -4);
        check.is("eight still", x.many(3), 8);
        check.is("all are so", x.kinds(0), 0b001);
    }

    private static void backMakesRoomAgain() {
        NeededAnswers x = withATerm("n;p10000");
        for (int k = 0; k < 8; k++) {
            x.reading(1, 1);
        }
        for (int n = 1; n <= 8; n++) {
            check.is("back by " + n, x.back(n), 8 - n);
            for (int k = 8 - n; k < 8; k++) {
                check.is("again", x.reading(1, k == 8 - n ? 2 : 1), k);
            }
            check.is("full", x.reading(1, 1), -4);
            check.is("one of them is unlike the rest", x.kinds(0), 0);
            x.back(n);
            check.is("the earlier ones stay", x.kinds(0), n == 8 ? 7 : 1);
            for (int k = 8 - n; k < 8; k++) {
                x.reading(1, 1);
            }
        }
    }

    /** "The last n READINGS (0 .. as many as there are)." */
    private static void backFromNoneToAll() {
        for (int there = 0; there <= 8; there++) {
            for (int n = 0; n <= there; n++) {
                NeededAnswers x = withATerm("n;p10000");
                for (int k = 0; k < there; k++) {
                    x.reading(0, 0);
                }
                check.is("one more than there are", x.back(there + 1), -2);
                check.is("one less than none", x.back(-1), -2);
                check.is("back " + n + " of " + there, x.back(n), there - n);
                check.is("left", x.many(3), there - n);
            }
        }
        check.is("none of none, without functions", new NeededAnswers().back(0), 0);
        check.is("one of none, without functions", new NeededAnswers().back(1), -2);
    }

    /** "OUTSIDE: c (0 .. 200, NONE)." */
    private static void theLastCostsThatAreTaken() {
        int taken = 0;
        for (int c = -20; c <= 220; c++) {
            NeededAnswers x = withATerm("n;p10000");
            boolean isTaken = c == -9 || c >= 0 && c <= 200;
            check.is("c " + c, x.reading(1, c), isTaken ? 0 : -2);
            taken += x.many(3);
        }
        check.is("as many were taken", taken, 202);
        for (int c : new int[] {Integer.MIN_VALUE, Integer.MAX_VALUE, 201 - 256, 201 + 256}) {
            check.is("c " + c, withATerm("n;p10000").reading(1, c), -2);
        }
    }

    /** "The least PRICE of all ANSWERS of a TERM is c (NONE: it has none)." */
    private static void noneAsAReading() {
        NeededAnswers x = Check.with("n;p10f00;p10f00");
        x.unknown(0);
        x.apply(0, 0, 0);
        x.given(0, 0);
        check.is("none", x.reading(1, -9), 0);
        check.is("it has none, whatever it costs", x.kinds(0), 7);
        check.is("nor at either argument", x.branches(0), 3);
        check.is("function 1 has no part in it", x.kinds(1), 7);
        x.given(0, 1);
        check.is("it has one", x.kinds(0), 0);
        check.is("it has one", x.branches(0), 0);
        x.given(0, 3);
        check.is("it has some", x.kinds(0), 0);
        check.is("by function 1", x.kinds(1), 0);
        x.given(0, 0);
        x.back(1);
        for (int c : new int[] {0, 1, 2, 200}) {
            check.is("a price", x.reading(1, c), 0);
            check.is("where there is none", x.kinds(0), 0);
            x.back(1);
        }
    }

    private static void zeroAsAReading() {
        NeededAnswers x = withATerm("n;p10000");
        check.is("of a value", x.reading(0, 0), 0);
        check.is("it is so by all", x.kinds(0), 7);
        check.is("of a function", x.reading(1, 0), 1);
        check.is("it is so by none", x.kinds(0), 0);
    }

    private static void withoutReadingsAllKindsAndBranches() {
        NeededAnswers x = Check.with("n;p10fff;d91c00c11c22;w50ooo");
        for (int f = 0; f <= 2; f++) {
            check.is("kinds without terms", x.kinds(f), 7);
            check.is("branches without terms", x.branches(f), 3);
        }
        x.constant(0);
        x.apply(0, 0, 0);
        for (int f = 0; f <= 2; f++) {
            check.is("kinds with terms", x.kinds(f), 7);
            check.is("branches with terms", x.branches(f), 3);
        }
        x.reading(1, 5);
        check.is("kinds by one", x.kinds(0), 0);
        x.back(1);
        for (int f = 0; f <= 2; f++) {
            check.is("kinds when it is taken back", x.kinds(f), 7);
            check.is("branches when it is taken back", x.branches(f), 3);
        }
    }

    private static void noKindAndNoBranchIsLeft() {
        NeededAnswers x = withATerm("n;p30000");
        for (int c = 0; c <= 8; c++) {
            x.reading(1, c);
            int due = c == 3 ? 1 : c == 4 ? 2 : c == 6 ? 4 : 0;
            check.is("kinds by " + c, x.kinds(0), due);
            check.is("branches by " + c, x.branches(0), c == 3 ? 3 : 0);
            x.back(1);
        }
        // Price 1: a dear one costs as much as a double one.
        x.price(0, 1);
        x.reading(1, 2);
        check.is("kinds by 2", x.kinds(0), 0b110);
    }

    private static void allReadingsMustBeSo() {
        NeededAnswers x = withATerm("n;p30000");
        for (int wrong = 0; wrong < 8; wrong++) {
            for (int k = 0; k < 8; k++) {
                x.reading(1, k == wrong ? 4 : 3);
            }
            check.is("kinds, all but reading " + wrong, x.kinds(0), 0);
            check.is("branches, all but reading " + wrong, x.branches(0), 0);
            x.back(8 - wrong);
            check.is("kinds without it", x.kinds(0), wrong == 0 ? 7 : 1);
            x.back(wrong);
        }
    }

    /** "In place of what it is alone": the others stay as they are, and it does behind the call. */
    private static void oneFunctionAloneIsPutInPlace() {
        NeededAnswers x = Check.with("n;p30000;d50000;w20000");
        x.constant(0);
        x.apply(0, 0, 0);
        x.apply(1, 1, 0);
        x.apply(2, 2, 0);
        check.is("what it costs now", x.answers(3, 3), 3 + 6 + 4);
        int[][] due = {{12, 0b000, 0b001, 0b010}, {13, 0b001, 0b010, 0b100}, {14, 0b010, 0b000, 0b000},
            {11, 0b000, 0b000, 0b001}, {16, 0b100, 0b000, 0b000}, {17, 0b000, 0b100, 0b000}};
        for (int[] row : due) {
            x.reading(3, row[0]);
            for (int f = 0; f <= 2; f++) {
                check.is("kinds of " + f + " by " + row[0], x.kinds(f), row[1 + f]);
                check.is("kind of " + f + " as it is", x.ofFunction(f, 0), f);
            }
            x.back(1);
        }
        x.reading(3, 12);
        check.is("a dear one of price 2 costs 3", x.kinds(2), 0b010);
        x.price(2, 3);
        check.is("a plain one of price 3 does", x.kinds(2), 0b001);
    }

    /** BRANCHES: 0, 1, as a set: its twigs go along to the other ARGUMENT. */
    private static void branchesOfNoneOfOneOfBoth() {
        for (int argument = 0; argument <= 1; argument++) {
            // Function 1 over (function 0, a value): at argument 0 it looks at both, at 1 at the value alone.
            NeededAnswers x = Check.with("n;p40012;p2" + argument + "012");
            x.constant(1);
            x.apply(0, 0, 0);
            x.apply(1, 1, 0);
            int[][] due = {{6, 0b01}, {2, 0b10}, {4, 0b00}};
            for (int[] by : due) {
                x.reading(2, by[0]);
                check.is("branches of 1 by " + by[0], x.branches(1), by[1]);
                check.is("its argument as it is", x.ofFunction(1, 3), argument);
                x.back(1);
            }
            x.reading(1, 4);
            check.is("of one alike at both", x.branches(0), 0b11);
            check.is("of one that has no part in it", x.branches(1), 0b11);
            x.reading(2, argument == 0 ? 6 : 2);
            check.is("by both readings", x.branches(1), 1 << argument);
            check.is("of the other", x.branches(0), 0b11);
        }
        // By a failure: over (0, 1), at argument 0 the twig of 0 fails, at argument 1 that of 1 does not.
        NeededAnswers x = Check.with("n;p10f22");
        x.constant(0);
        x.constant(1);
        x.apply(0, 0, 1);
        x.reading(2, -9);
        check.is("it fails", x.branches(0), 0b01);
        x.back(1);
        x.reading(2, 1);
        check.is("it does not", x.branches(0), 0b10);
    }

    private static void oneThatNoReadingHangsOn() {
        NeededAnswers x = Check.with("n;p30000;d50000");
        x.constant(0);
        x.apply(0, 0, 0);
        x.reading(1, 3);
        check.is("all kinds of the other", x.kinds(1), 7);
        check.is("all branches of the other", x.branches(1), 3);
        x.reading(1, 4);
        check.is("no kinds of the other", x.kinds(1), 0);
        check.is("no branches of the other", x.branches(1), 0);
    }

    private static void theMostThatAnswersCost() {
        NeededAnswers x = Check.with("n;w90ooo");
        x.constant(0);
        for (int t = 0; t < 5; t++) {
            x.apply(0, t, t);
        }
        int[] due = {45, 50, 90};
        for (int kind = 0; kind <= 2; kind++) {
            check.is("reading", x.reading(5, due[kind]), 0);
            check.is("kinds by " + due[kind], x.kinds(0), 1 << kind);
            x.back(1);
        }
        check.is("200 is taken", x.reading(5, 200), 0);
        check.is("and never so", x.kinds(0), 0);
    }

    /** ODDS of "a failure (3)": of a term that always fails, now and then, never. */
    private static void oddsOfAFailure() {
        NeededAnswers x = Check.with("n;p10fff;p10f01;p10bf12bff2bfff");
        x.unknown(0);
        x.unknown(1);
        x.apply(0, 0, 1);
        x.apply(1, 0, 1);
        x.apply(2, 0, 1);
        x.apply(0, 4, 4);
        check.odds(x, 0, 1, 3, 1, 3, 1, 3, 0, 1);
        check.odds(x, 2, 0, 1, 0, 1, 0, 1, 1, 1);
        check.odds(x, 3, 1, 3, 1, 3, 0, 1, 1, 3);
        check.odds(x, 4, 0, 1, 1, 9, 2, 9, 2, 3);
        check.odds(x, 5, 0, 1, 0, 1, 0, 1, 1, 1);
    }

    /** "Upper and lower number (above 0) in least terms": 0 of 1, and 1 of 1. */
    private static void oddsOfNothingAndOfAll() {
        NeededAnswers x = Check.with("n;p10c00c11c22");
        for (int v = 0; v <= 2; v++) {
            x.constant(v);
            x.apply(0, 2 * v, 2 * v);
            for (int t = 2 * v; t <= 2 * v + 1; t++) {
                for (int w = 0; w <= 3; w++) {
                    check.is("upper", x.odds(t, w, 0), w == v ? 1 : 0);
                    check.is("lower", x.odds(t, w, 1), 1);
                }
            }
        }
    }

    private static void oddsAreInLeastTerms() {
        // By the unknown: 0 a coin of 0, 1; 1 the value 0; 2 a failure.
        NeededAnswers x = Check.with("n;p10c010f;p10c01c12c20");
        x.unknown(0);
        x.apply(0, 0, 0);
        check.odds(x, 1, 1, 2, 1, 6, 0, 1, 1, 3);
        x.apply(1, 0, 0);
        check.odds(x, 2, 1, 3, 1, 3, 1, 3, 0, 1);
        x.apply(1, 1, 1);
        check.odds(x, 3, 1, 4, 1, 3, 1, 12, 1, 3);
    }

    /** Five choices behind one unknown, and three unknowns: the largest lower numbers. */
    private static void oddsOfTheManiestThrows() {
        NeededAnswers x = Check.with("n;p10c01c20f");
        x.constant(0);
        for (int t = 0; t < 5; t++) {
            x.apply(0, t, t);
        }
        check.odds(x, 1, 1, 2, 1, 2, 0, 1, 0, 1);
        check.odds(x, 2, 1, 2, 1, 4, 1, 4, 0, 1);
        check.odds(x, 3, 3, 8, 1, 4, 1, 8, 1, 4);
        check.odds(x, 4, 5, 16, 3, 16, 1, 8, 3, 8);
        check.odds(x, 5, 1, 4, 5, 32, 3, 32, 1, 2);
        NeededAnswers y = Check.with("n;p10bf00b000b000");
        for (int u = 0; u <= 2; u++) {
            y.unknown(u);
        }
        y.apply(0, 0, 1);
        y.apply(0, 2, 3);
        check.odds(y, 3, 8, 9, 0, 1, 0, 1, 1, 9);
        check.odds(y, 4, 16, 27, 0, 1, 0, 1, 11, 27);
    }

    /** "GIVEN ones as they are, others to 0 .. 2." */
    private static void oddsWhereSomethingIsGiven() {
        NeededAnswers x = Check.with("n;p10c01of");
        x.unknown(0);
        x.unknown(1);
        x.apply(0, 0, 1);
        check.odds(x, 2, 5, 18, 5, 18, 1, 9, 1, 3);
        x.given(2, 1);
        check.odds(x, 2, 5, 18, 5, 18, 1, 9, 1, 3);
        x.given(1, 2);
        check.odds(x, 2, 1, 6, 1, 6, 1, 3, 1, 3);
        x.given(0, 1);
        check.odds(x, 2, 0, 1, 0, 1, 1, 1, 0, 1);
        x.given(0, 2);
        check.odds(x, 2, 0, 1, 0, 1, 0, 1, 1, 1);
        x.given(0, 0);
        check.odds(x, 2, 1, 2, 1, 2, 0, 1, 0, 1);
        x.given(0, 3);
        x.given(1, 3);
        check.odds(x, 2, 5, 18, 5, 18, 1, 9, 1, 3);
    }

    private static void oddsOfOneAndTheSame() {
        // Term 2 is 1 if both its arguments are the same and 0 if not.
        NeededAnswers x = Check.with("n;p10c01c01c01;p10b100b010b001");
        x.constant(0);
        x.apply(0, 0, 0);
        x.apply(1, 1, 1);
        check.odds(x, 2, 0, 1, 1, 1, 0, 1, 0, 1);
        x.apply(0, 0, 0);
        x.apply(1, 1, 3);
        check.odds(x, 4, 1, 2, 1, 2, 0, 1, 0, 1);
        NeededAnswers y = Check.with("n;p10b100b010b001");
        y.unknown(1);
        y.unknown(1);
        y.unknown(2);
        y.apply(0, 0, 1);
        y.apply(0, 0, 2);
        check.odds(y, 3, 0, 1, 1, 1, 0, 1, 0, 1);
        check.odds(y, 4, 2, 3, 1, 3, 0, 1, 0, 1);
    }

    private static void askingChangesNothing() {
        String[] names = {"kinds", "branches"};
        for (String name : names) {
            for (int f = 0; f <= 2; f++) {
                isUnchanged(name, f);
            }
        }
        for (int v = 0; v <= 3; v++) {
            isUnchanged("odds", 3, v, 0);
            isUnchanged("odds", 2, v, 1);
        }
        isUnchanged("back", 0);
    }

    private static void isUnchanged(String name, int... numbers) {
        NeededAnswers asked = Made.busy();
        Calls.call(asked, name, numbers);
        String unlike = Whole.firstUnlike(Whole.byBacks(asked), Whole.byBacks(Made.busy()));
        check.is(Calls.told(name, numbers) + " changed " + unlike, unlike.length(), 0);
    }
}
