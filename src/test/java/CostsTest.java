/** Promises 15 to 19: what it costs. */
public final class CostsTest {
    private static final Check check = new Check("CostsTest");

    public static void main(String[] args) {
        readingsAreTaken();
        readingsGoBack();
        kindsByReadings();
        kindsInPlaceOfOneAlone();
        kindsByNone();
        kindsOfNow();
        branchesByReadings();
        branchesAndKindsChangeNothing();
        oddsOfLeaves();
        oddsOfFunctions();
        oddsOfOneCoin();
        oddsRefused();
        check.end();
    }

    private static void readingsAreTaken() {
        NeededAnswers x = Check.with("n;p10012");
        check.is("no term", x.reading(0, 0), -1);
        x.constant(0);
        check.is("term -1", x.reading(-1, 999), -1);
        check.is("term 1", x.reading(1, 0), -1);
        for (int c : new int[] {-1, -8, -10, 201, Integer.MIN_VALUE, Integer.MAX_VALUE}) {
            check.is("c " + c, x.reading(0, c), -2);
        }
        int[] costs = {0, 200, -9, 1, 0, 0, 0, 0};
        for (int k = 0; k < 8; k++) {
            check.is("reading " + k, x.reading(0, costs[k]), k);
            check.is("many", x.many(3), k + 1);
        }
        check.is("a ninth", x.reading(0, 0), -4);
        check.is("OUTSIDE ahead of FULL", x.reading(0, 201), -2);
        check.is("UNKNOWN ahead of FULL", x.reading(1, 0), -1);
    }

    private static void readingsGoBack() {
        NeededAnswers x = new NeededAnswers();
        check.is("none", x.back(0), 0);
        check.is("one of none", x.back(1), -2);
        x = Check.with("n;p30012");
        x.constant(0);
        x.apply(0, 0, 0);
        x.reading(1, 3);
        x.reading(1, 4);
        x.reading(1, 3);
        check.is("two unlike", x.kinds(0), 0);
        check.is("-1", x.back(-1), -2);
        check.is("4 of 3", x.back(4), -2);
        check.is("0 of 3", x.back(0), 3);
        check.is("the last two", x.back(2), 1);
        check.is("the first is left", x.kinds(0), 0b001);
        check.is("number anew", x.reading(0, 0), 1);
        check.is("all", x.back(2), 0);
        check.is("none left", x.many(3), 0);
        check.is("all kinds again", x.kinds(0), 0b111);
    }

    private static void kindsByReadings() {
        // Price 2: a plain one 2, a dear one 3, a double one 4. Price 1: 1, 2, 2.
        for (int price = 1; price <= 2; price++) {
            for (char kind : new char[] {'p', 'd', 'w'}) {
                for (int c = 0; c <= 5; c++) {
                    NeededAnswers x = Check.with("n;" + kind + price + "0012");
                    x.constant(1);
                    x.apply(0, 0, 0);
                    x.reading(1, c);
                    int due = (price == c ? 1 : 0) + (price + 1 == c ? 2 : 0) + (2 * price == c ? 4 : 0);
                    check.is("kinds " + kind + price + " " + c, x.kinds(0), due);
                }
            }
        }
        NeededAnswers x = Check.with("n;p10012");
        check.is("function -1", x.kinds(-1), -1);
        check.is("function 1", x.kinds(1), -1);
        check.is("no readings", x.kinds(0), 7);
        check.is("none there", new NeededAnswers().kinds(0), -1);
    }

    private static void kindsInPlaceOfOneAlone() {
        // Term 1 costs by function 0, term 2 by both, so each reading tells of one by the other.
        NeededAnswers x = Check.with("n;p30012;d50012");
        x.constant(1);
        x.apply(0, 0, 0);
        x.apply(1, 1, 0);
        check.is("reading", x.reading(2, 12), 0);
        check.is("function 0", x.kinds(0), 0b100);
        check.is("function 1", x.kinds(1), 0);
        x.back(1);
        x.reading(2, 9);
        check.is("function 0 as it is", x.kinds(0), 0b001);
        check.is("function 1 as it is", x.kinds(1), 0b010);
        x.reading(1, 3);
        check.is("function 0 by both", x.kinds(0), 0b001);
        check.is("function 1 by both", x.kinds(1), 0b010);
        x.reading(1, 4);
        check.is("function 0 by three", x.kinds(0), 0);
        check.is("function 1 by three", x.kinds(1), 0);
    }

    private static void kindsByNone() {
        NeededAnswers x = Check.with("n;p30fff;p30012");
        x.constant(1);
        x.apply(0, 0, 0);
        x.apply(1, 0, 0);
        x.reading(1, -9);
        check.is("it has none", x.kinds(0), 7);
        x.reading(2, -9);
        check.is("it has one", x.kinds(0), 0);
        x.back(2);
        x.reading(1, 3);
        check.is("none is no price", x.kinds(0), 0);
    }

    private static void kindsOfNow() {
        // A reading is weighed by prices and what is given when it is asked.
        NeededAnswers x = Check.with("n;p30012;p5001f");
        x.unknown(0);
        x.apply(0, 0, 0);
        x.apply(1, 0, 0);
        x.reading(1, 4);
        check.is("price 3", x.kinds(0), 0b010);
        x.price(0, 2);
        check.is("price 2", x.kinds(0), 0b100);
        x.price(0, 4);
        check.is("price 4", x.kinds(0), 0b001);
        x.reading(2, -9);
        check.is("not given", x.kinds(1), 0);
        x.given(0, 2);
        check.is("given", x.kinds(1), 0b111);
    }

    private static void branchesByReadings() {
        // Over (coin, value): at the coin it looks at both, at the value at that alone.
        NeededAnswers x = Check.with("n;p40c01c01c01;p20012");
        x.constant(1);
        x.apply(0, 0, 0);
        x.apply(1, 1, 0);
        check.is("no readings", x.branches(1), 0b11);
        x.reading(2, 6);
        check.is("at the coin", x.branches(1), 0b01);
        check.is("function 0 either way", x.branches(0), 0b11);
        x.back(1);
        x.reading(2, 2);
        check.is("at the value", x.branches(1), 0b10);
        check.is("function 0 neither way", x.branches(0), 0);
        x.reading(2, 6);
        check.is("both readings", x.branches(1), 0);
        check.is("function -1", x.branches(-1), -1);
        check.is("function 2", x.branches(2), -1);
        check.is("none there", new NeededAnswers().branches(0), -1);
        // Twigs go along: over (0, 2), at 0 it branches at 2 and fails, at 2 it hands on 0.
        NeededAnswers y = Check.with("n;p30b1fffo");
        y.constant(0);
        y.constant(2);
        y.apply(0, 0, 1);
        y.reading(2, -9);
        check.is("it fails", y.branches(0), 0b01);
        y.back(1);
        y.reading(2, 3);
        check.is("it hands on", y.branches(0), 0b10);
    }

    private static void branchesAndKindsChangeNothing() {
        NeededAnswers x = Check.with("n;d41012");
        x.constant(1);
        x.apply(0, 0, 0);
        x.reading(1, 8);
        check.is("kinds", x.kinds(0), 0b100);
        check.is("branches", x.branches(0), 0);
        check.is("kind as it was", x.ofFunction(0, 0), 1);
        check.is("argument as it was", x.ofFunction(0, 3), 1);
        check.is("price of the answer", x.answers(1, 3), 5);
        check.is("many readings", x.many(3), 1);
    }

    private static void oddsOfLeaves() {
        NeededAnswers x = Check.with("n;p10012");
        x.constant(1);
        x.unknown(2);
        check.odds(x, 0, 0, 1, 1, 1, 0, 1, 0, 1);
        check.odds(x, 1, 1, 3, 1, 3, 1, 3, 0, 1);
        x.given(2, 0);
        check.odds(x, 1, 1, 1, 0, 1, 0, 1, 0, 1);
    }

    private static void oddsOfFunctions() {
        // Unknown 0: 0 chooses of 1, 2; 1 fails; 2 hands on unknown 1.
        NeededAnswers x = Check.with("n;p20c12fo");
        x.unknown(0);
        x.unknown(1);
        x.apply(0, 0, 1);
        check.odds(x, 2, 1, 9, 5, 18, 5, 18, 1, 3);
        x.given(0, 1);
        check.odds(x, 2, 0, 1, 0, 1, 0, 1, 1, 1);
        x.given(0, 0);
        check.odds(x, 2, 0, 1, 1, 2, 1, 2, 0, 1);
        x.given(0, 2);
        check.odds(x, 2, 1, 3, 1, 3, 1, 3, 0, 1);
        x.given(1, 2);
        check.odds(x, 2, 0, 1, 0, 1, 1, 1, 0, 1);
    }

    private static void oddsOfOneCoin() {
        // Term 2 is 1 if both sides are the same, and fails if not.
        NeededAnswers x = Check.with("n;p10c01c01c01;p10b1ffbf1fbff1");
        x.constant(0);
        x.apply(0, 0, 0);
        x.apply(1, 1, 1);
        check.odds(x, 2, 0, 1, 1, 1, 0, 1, 0, 1);
        x.apply(0, 0, 0);
        x.apply(1, 1, 3);
        check.odds(x, 4, 0, 1, 1, 2, 0, 1, 1, 2);
        x.apply(0, 4, 4);
        check.odds(x, 5, 1, 4, 1, 4, 0, 1, 1, 2);
        // Unknown 0: 0 is 0; 1 throws 0 or 1; 2 hands on the like by unknown 1, that by unknown 2.
        NeededAnswers y = Check.with("n;p10c00c01o");
        y.unknown(0);
        y.unknown(1);
        y.unknown(2);
        y.apply(0, 1, 2);
        y.apply(0, 0, 3);
        check.odds(y, 4, 19, 27, 7, 27, 1, 27, 0, 1);
    }

    private static void oddsRefused() {
        NeededAnswers x = Check.with("n;p10012");
        long lost = Long.MIN_VALUE;
        check.is("LOST", NeededAnswers.LOST, lost);
        check.is("no term", x.odds(0, 0, 0), lost);
        x.constant(1);
        check.is("term -1", x.odds(-1, 0, 0), lost);
        check.is("term 1", x.odds(1, 0, 0), lost);
        check.is("v -1", x.odds(0, -1, 0), lost);
        check.is("v 4", x.odds(0, 4, 0), lost);
        check.is("which -1", x.odds(0, 0, -1), lost);
        check.is("which 2", x.odds(0, 0, 2), lost);
        x.as(0, 2);
        check.is("a fault ahead", x.fault(), 2);
        x.odds(9, 9, 9);
        check.is("odds names no faults", x.fault(), 2);
    }
}
