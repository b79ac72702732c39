/** The boundary cases that block 1 and promises 1 to 9 name; what is refused there is in RefusalsTest. */
public final class FunctionsTermsEdgesTest {
    private static final int LEAST = Integer.MIN_VALUE, MOST = Integer.MAX_VALUE;
    private static final String ONE = "n;p10000", TWO = ONE + ";p10000", THREE = TWO + ";p10000";
    private static final String LONGEST = "n;p10b012bf01b2f0;d21bfffb222b111;w90b00fb0f0bf00";
    private static final Check check = new Check("FunctionsTermsEdgesTest");

    public static void main(String[] args) {
        aNewObjectHasNothing();
        eachPlaceTakesItsCodesAlone();
        aTextThatEndsTooSoonTellsHowManyCodes();
        theFirstFaultIsToldNotALaterOne();
        oneToThreeFunctions();
        theSemicolonOfAFourthFunction();
        theShortestAndTheLongestText();
        aTextAtBothEndsOfASheet();
        placesCountFromTheTextsFirstCode();
        noCodesAtAll();
        codesAreWhatTheLaneLeavesOfThem();
        pricesFromOneToNine();
        twigsOfEachNumber();
        argumentsOfBothNumbers();
        sixTermsAtMost();
        dropMakesRoomAgain();
        termsOverTheFirstAndTheLast();
        leavesOfEachNumber();
        dropTakesItsReadingsAlone();
        dropTheLastOneLeft();
        aTextMakesAllAnew();
        aTextTakenTwice();
        check.end();
    }

    /** Promise 1: no FUNCTIONS, no TERMS, SHEETS have nothing. */
    private static void aNewObjectHasNothing() {
        for (int what = 0; what <= 3; what++) {
            check.is("new many " + what, new NeededAnswers().many(what), 0);
        }
        check.is("new fault", new NeededAnswers().fault(), 0);
        check.is("new trace", new NeededAnswers().trace(), 0);
        check.is("new back 0", new NeededAnswers().back(0), 0);
        for (int k = 0; k <= 3; k++) {
            check.is("new lose " + k, new NeededAnswers().lose(k), 0);
            for (int lane = 0; lane <= 2; lane++) {
                NeededAnswers x = new NeededAnswers();
                check.is("new cell", x.cell(k, 0, lane), Long.MIN_VALUE);
                check.is("new cell, fault", x.fault(), 1);
            }
        }
    }

    /** Of all codes just these go on behind a text's beginning; all others are its FIRST FAULT. */
    private static void eachPlaceTakesItsCodesAlone() {
        String[][] goOn = {{"", "n"}, {"n", ";"}, {"n;", "pdw"}, {"n;p", "123456789"}, {"n;d9", "01"}, {"n;w10", "012ofcb"},
            {"n;p11c", "012"}, {"n;p11c2", "012"}, {"n;p11b", "012f"}, {"n;p11bf", "012f"}, {"n;p11b20", "012f"},
            {"n;p11f", "012ofcb"}, {"n;p11c01", "012ofcb"}, {"n;p11bfff", "012ofcb"}, {"n;p10oo", "012ofcb"},
            {"n;p10ooc", "012"}, {"n;p10oob00", "012f"}, {ONE, ";"}, {"n;p10ooo", ";"}, {"n;p10ffc22", ";"},
            {"n;p10ffbfff", ";"}, {ONE + ";", "pdw"}, {ONE + ";d", "123456789"}, {TWO, ";"}, {TWO + ";", "pdw"},
            {TWO + ";w5", "01"}, {THREE, ""}};
        for (String[] place : goOn) {
            for (int from = -130; from < 300; from += 100) {
                codesBehind(place[0], place[1], from, from + 100);
            }
            codesBehind(place[0], place[1], LEAST, LEAST + 3);
            codesBehind(place[0], place[1], MOST - 3, MOST);
            codesBehind(place[0], place[1], 65536 + 48, 65536 + 123);
        }
    }

    private static void codesBehind(String begun, String taken, int from, int beyond) {
        NeededAnswers x = new NeededAnswers();
        int place = begun.length();
        Check.lay(x, 0, 2, Check.codes(begun + "?"));
        for (int code = from; code < beyond; code++) {
            x.put(0, place, code);
            boolean goesOn = code > 0 && code < 128 && taken.indexOf(code) >= 0;
            int due = goesOn ? wholeOrTooShort(begun + (char) code) : -100 - place;
            check.is(begun + " and code " + code, x.functions(0, 2, 0, place + 1), due);
        }
    }

    /** What is due of a text with no wrong code: whole are those whose last function has all its twigs. */
    private static int wholeOrTooShort(String text) {
        boolean whole = text.matches("n(;...([012of]|c..|b...){3})+");
        return whole ? text.split(";").length - 1 : -100 - text.length();
    }

    /** "How many codes there are, if it just ends too soon." */
    private static void aTextThatEndsTooSoonTellsHowManyCodes() {
        NeededAnswers x = new NeededAnswers();
        Check.lay(x, 1, 1, Check.codes(LONGEST));
        for (int n = 0; n <= LONGEST.length(); n++) {
            int due = n == 17 ? 1 : n == 33 ? 2 : n == 49 ? 3 : -100 - n;
            check.is("the first " + n + " codes", x.functions(1, 1, 0, n), due);
        }
    }

    private static void theFirstFaultIsToldNotALaterOne() {
        String[] texts = {"x", "nx", "n;x", "n;px", "n;p1x", "n;p10x", "n;p100x", "n;p1000x", ONE + "x", ONE + ";x"};
        for (int place = 0; place < texts.length; place++) {
            int due = -100 - (texts[place].length() - 1);
            check.is(texts[place], Check.take(new NeededAnswers(), texts[place]), due);
            check.is(texts[place] + "x", Check.take(new NeededAnswers(), texts[place] + "x"), due);
            check.is(texts[place] + "n;p1000", Check.take(new NeededAnswers(), texts[place] + "n;p1000"), due);
        }
    }

    /** "n, then 1 to 3 FUNCTIONS, numbered from 0 on." */
    private static void oneToThreeFunctions() {
        check.is("none", Check.take(new NeededAnswers(), "n"), -101);
        String[] texts = {ONE, TWO, THREE};
        for (int many = 1; many <= 3; many++) {
            NeededAnswers x = new NeededAnswers();
            check.is("functions " + many, Check.take(x, texts[many - 1]), many);
            check.is("many", x.many(0), many);
            check.is("the first", x.ofFunction(0, 1), 1);
            check.is("the last", x.ofFunction(many - 1, 1), 1);
            check.is("one beyond", x.ofFunction(many, 1), -1);
            check.is("one before", x.ofFunction(-1, 1), -1);
        }
    }

    /** "The ; of a fourth FUNCTION" is the FIRST FAULT, whether that one is whole or not. */
    private static void theSemicolonOfAFourthFunction() {
        for (String more : new String[] {";", ";p", ";p1", ";p10", ";p100", ";p1000", ";p10000", ";x", ";;"}) {
            NeededAnswers x = Check.with("n;w91222");
            check.is("three and " + more, Check.take(x, THREE + more), -100 - 22);
            check.is("still one", x.many(0), 1);
            check.is("still that one", x.ofFunction(0, 2), 18);
        }
        check.is("the longest and ;", Check.take(new NeededAnswers(), LONGEST + ";"), -100 - 49);
    }

    private static void theShortestAndTheLongestText() {
        check.is("the shortest has", ONE.length(), 8);
        check.is("the shortest", Check.take(new NeededAnswers(), ONE), 1);
        check.is("a code less", Check.take(new NeededAnswers(), ONE.substring(0, 7)), -107);
        check.is("the longest has", LONGEST.length(), 49);
        check.is("the longest", Check.take(new NeededAnswers(), LONGEST), 3);
        for (int extra = 1; extra <= 11; extra++) {
            NeededAnswers x = new NeededAnswers();
            Check.lay(x, 0, 0, Check.codes(LONGEST + "00000000000"));
            check.is("codes behind it: " + extra, x.functions(0, 0, 0, 49 + extra), -149);
        }
    }

    /** "Of n cells of a SHEET from i on": to its last cell, and no further. */
    private static void aTextAtBothEndsOfASheet() {
        for (int lane = 0; lane <= 2; lane++) {
            NeededAnswers x = new NeededAnswers();
            x.sheet(0, lane, 60);
            for (int k = 0; k < 49; k++) {
                x.put(0, 11 + k, LONGEST.charAt(k));
            }
            check.is("to the last cell", x.functions(0, lane, 11, 49), 3);
            check.is("one cell on", x.functions(0, lane, 12, 49), -13);
            check.is("one cell back", x.functions(0, lane, 10, 49), -100);
            check.is("none behind the last", x.functions(0, lane, 60, 0), -100);
            check.is("none further on", x.functions(0, lane, 61, 0), -13);
            check.is("one behind the last", x.functions(0, lane, 60, 1), -13);
            check.is("the whole sheet", x.functions(0, lane, 0, 60), -100);
            check.is("a cell more", x.functions(0, lane, 0, 61), -13);
            check.is("still three", x.many(0), 3);
        }
    }

    private static void placesCountFromTheTextsFirstCode() {
        for (int before = 0; before <= 20; before++) {
            NeededAnswers x = new NeededAnswers();
            Check.lay(x, 2, 1, Check.codes(" ".repeat(before) + "n;p1000x"));
            check.is("wrong code, from " + before, x.functions(2, 1, before, 8), -107);
            check.is("too short, from " + before, x.functions(2, 1, before, 7), -107);
            check.is("shorter, from " + before, x.functions(2, 1, before, 3), -103);
        }
    }

    /** Of no cells: the FIRST FAULT is at 0 where i is 0 .. how many there are, and INDEX elsewhere. */
    private static void noCodesAtAll() {
        for (int size : new int[] {0, 1, 60}) {
            NeededAnswers x = new NeededAnswers();
            x.sheet(0, 2, size);
            for (int i = 0; i <= size; i++) {
                check.is("none from " + i + " of " + size, x.functions(0, 2, i, 0), -100);
            }
            for (int i : new int[] {-1, size + 1, LEAST, MOST}) {
                check.is("none from " + i + " of " + size, x.functions(0, 2, i, 0), -13);
                check.is("fault", x.fault(), 3);
            }
            check.is("one of them", x.functions(0, 2, 0, 1), size == 0 ? -13 : -100);
        }
    }

    private static void codesAreWhatTheLaneLeavesOfThem() {
        int[] more = {256, -256, 65536, -65536, 1 << 24};
        for (int lane = 0; lane <= 2; lane++) {
            for (int off : more) {
                for (int place = 0; place < ONE.length(); place++) {
                    NeededAnswers x = new NeededAnswers();
                    Check.lay(x, 0, lane, Check.codes(ONE));
                    x.put(0, place, ONE.charAt(place) + off);
                    boolean left = lane == 0 || lane == 1 && off % 65536 == 0;
                    check.is("lane " + lane + ", " + off, x.functions(0, lane, 0, 8), left ? 1 : -100 - place);
                }
            }
        }
    }

    /** "A digit 1 .. 9 (PRICE)"; COST of a DEAR one 1 more, of a DOUBLE one twice what a PLAIN one's is. */
    private static void pricesFromOneToNine() {
        for (int price = 1; price <= 9; price++) {
            NeededAnswers x = Check.with("n;p" + price + "0000;d" + price + "0000;w" + price + "0000");
            int[] costs = {price, price + 1, price + price};
            for (int f = 0; f <= 2; f++) {
                check.is("kind", x.ofFunction(f, 0), f);
                check.is("price", x.ofFunction(f, 1), price);
                check.is("cost", x.ofFunction(f, 2), costs[f]);
                check.is("the least is taken", x.price(f, 1), price);
                check.is("the most is taken", x.price(f, 9), 1);
                check.is("0 is not", x.price(f, 0), -2);
                check.is("10 is not", x.price(f, 10), -2);
                check.is("9 stays", x.price(f, price), 9);
                check.is("the cost again", x.ofFunction(f, 2), costs[f]);
            }
        }
    }

    /** 10 and v what TWIG v is: 0 .. 2, 3, 4, 5 to 13 for the choices, 14. */
    private static void twigsOfEachNumber() {
        String[] twigs = {"0", "1", "2", "o", "f", "c00", "c01", "c02", "c10", "c11", "c12", "c20", "c21", "c22", "b0f2"};
        for (int k = 0; k < twigs.length; k++) {
            NeededAnswers x = Check.with("n;p10" + twigs[k] + "01;p100" + twigs[k] + "1;p1001" + twigs[k]);
            for (int v = 0; v <= 2; v++) {
                check.is("twig " + v + " " + twigs[k], x.ofFunction(v, 10 + v), k);
                check.is("what 9", x.ofFunction(v, 9), -2);
                check.is("what 13", x.ofFunction(v, 13), -2);
            }
        }
    }

    private static void argumentsOfBothNumbers() {
        NeededAnswers x = Check.with("n;p10012;p11012");
        check.is("argument 0", x.ofFunction(0, 3), 0);
        check.is("argument 1", x.ofFunction(1, 3), 1);
        check.is("what 4", x.ofFunction(1, 4), -2);
        check.is("what -1", x.ofFunction(1, -1), -2);
    }

    /** TERMS, "6 at most, numbered by how many there are". */
    private static void sixTermsAtMost() {
        for (int way = 0; way <= 2; way++) {
            NeededAnswers x = Check.with(ONE);
            for (int t = 0; t < 6; t++) {
                check.is("many ahead", x.many(1), t);
                check.is("term " + t, t == 0 ? x.constant(0) : add(x, way), t);
            }
            for (int again = 0; again <= 2; again++) {
                check.is("a seventh by " + again, add(x, again), -4);
                check.is("six", x.many(1), 6);
            }
            check.is("the sixth is there", x.ofTerm(5, 0), way);
            check.is("no seventh is", x.ofTerm(6, 0), -1);
        }
    }

    private static int add(NeededAnswers x, int way) {
        return way == 0 ? x.constant(2) : way == 1 ? x.unknown(2) : x.apply(0, 0, 0);
    }

    private static void dropMakesRoomAgain() {
        NeededAnswers x = Check.with(ONE);
        for (int t = 0; t < 6; t++) {
            x.constant(0);
        }
        for (int way = 0; way <= 2; way++) {
            check.is("full", add(x, way), -4);
            check.is("dropped", x.drop(), 5);
            check.is("room for one", add(x, way), 5);
            check.is("which is", x.ofTerm(5, 0), way);
            check.is("full again", add(x, way), -4);
        }
        for (int left = 5; left >= 0; left--) {
            check.is("drop to " + left, x.drop(), left);
        }
        check.is("none left", x.drop(), -3);
        check.is("numbered from 0 again", x.unknown(1), 0);
    }

    /** "Over two TERMS that there are (perhaps the same one)." */
    private static void termsOverTheFirstAndTheLast() {
        NeededAnswers x = Check.with(THREE);
        x.unknown(0);
        for (int t = 1; t < 6; t++) {
            check.is("a beyond", x.apply(0, t, 0), -1);
            check.is("b beyond", x.apply(0, 0, t), -1);
            check.is("over the last, the first", x.apply(2, t - 1, 0), t);
            check.is("its function", x.ofTerm(t, 1), 2);
            check.is("its a", x.ofTerm(t, 2), t - 1);
            check.is("its b", x.ofTerm(t, 3), 0);
        }
        x.drop();
        check.is("the same one twice", x.apply(0, 4, 4), 5);
        check.is("a", x.ofTerm(5, 2), 4);
        check.is("b", x.ofTerm(5, 3), 4);
    }

    /** VALUES, UNKNOWN ones are 0 .. 2; they have no TERMS: NONE. */
    private static void leavesOfEachNumber() {
        NeededAnswers x = Check.with(ONE);
        for (int v = 0; v <= 2; v++) {
            check.is("constant " + v, x.constant(v), 2 * v);
            check.is("unknown " + v, x.unknown(v), 2 * v + 1);
            for (int sort = 0; sort <= 1; sort++) {
                int[] due = {sort, v, -9, -9};
                for (int what = 0; what <= 3; what++) {
                    check.is("leaf " + sort + ", " + what, x.ofTerm(2 * v + sort, what), due[what]);
                }
            }
        }
    }

    /** The last TERM is taken away, "READINGS of it, too", and no others; they are numbered anew. */
    private static void dropTakesItsReadingsAlone() {
        for (int own = 0; own < 256; own++) {
            NeededAnswers x = Check.with("n;p50012");
            x.constant(0);
            x.apply(0, 0, 0);
            x.apply(0, 1, 1);
            for (int k = 0; k < 8; k++) {
                boolean isOwn = (own >> k & 1) == 1;
                check.is("reading " + k, x.reading(isOwn ? 2 : 1, isOwn ? 99 : 5), k);
            }
            int left = 8 - Integer.bitCount(own);
            check.is("kinds, by the last one's too", x.kinds(0), own == 0 ? 0b001 : 0);
            check.is("drop", x.drop(), 2);
            check.is("others are left", x.many(3), left);
            check.is("which are so", x.kinds(0), left == 0 ? 7 : 0b001);
            check.is("the next one's number", x.reading(1, 6), left == 8 ? -4 : left);
            check.is("a new last term", x.apply(0, 1, 1), 2);
            check.is("has no readings", x.kinds(0), left == 8 ? 0b001 : left == 0 ? 0b010 : 0);
            check.is("drop", x.drop(), 2);
            check.is("drop", x.drop(), 1);
            check.is("no readings left", x.many(3), 0);
        }
    }

    private static void dropTheLastOneLeft() {
        NeededAnswers x = Check.with(ONE);
        x.constant(0);
        x.given(0, 1);
        x.reading(0, -9);
        check.is("the last one left", x.drop(), 0);
        check.is("none", x.many(1), 0);
        check.is("its reading is gone", x.many(3), 0);
        check.is("functions stay", x.many(0), 1);
        check.is("what is given stays", x.many(2), 1);
        check.is("no more", x.drop(), -3);
    }

    /** "A TEXT that is taken makes all anew: no TERMS, nothing is GIVEN, no READINGS." */
    private static void aTextMakesAllAnew() {
        NeededAnswers x = Made.full();
        int trace = x.trace();
        // What these only imagine must not come back with the text.
        x.kinds(1);
        x.day(2, 2, 0, 3, 0);
        check.is("six terms", x.many(1), 6);
        check.is("three given", x.many(2), 3);
        check.is("eight readings", x.many(3), 8);
        check.is("a text that ends too soon", x.functions(0, 0, 0, 9), -109);
        int[] were = {3, 6, 3, 8};
        for (int what = 0; what <= 3; what++) {
            check.is("all as it was, " + what, x.many(what), were[what]);
        }
        check.is("a text", x.functions(0, 0, 0, 10), 1);
        int[] due = {1, 0, 0, 0};
        for (int what = 0; what <= 3; what++) {
            check.is("all anew, " + what, x.many(what), due[what]);
        }
        check.is("no second function", x.ofFunction(1, 0), -1);
        check.is("no term", x.ofTerm(0, 0), -1);
        check.is("none to drop", x.drop(), -3);
        check.is("none to take back", x.back(1), -2);
        for (int u = 0; u <= 2; u++) {
            check.is("not given " + u, x.given(u, 3), 3);
        }
        check.is("each kind", x.kinds(0), 7);
        check.is("each argument", x.branches(0), 3);
        check.is("term 0 anew", x.unknown(1), 0);
        check.is("which needs it", x.needs(0, 0), 1);
        check.is("reading 0 anew", x.reading(0, 0), 0);
        check.is("trace as it was", x.trace(), trace);
        check.is("the sheet as it was", x.cell(0, 9, 0), 'f');
    }

    private static void aTextTakenTwice() {
        NeededAnswers x = Made.ready();
        check.is("once", x.functions(0, 0, 0, 10), 1);
        x.price(0, 9);
        x.constant(1);
        check.is("twice", x.functions(0, 0, 0, 10), 1);
        check.is("its price is the text's", x.ofFunction(0, 1), 3);
        check.is("no terms", x.many(1), 0);
    }
}
