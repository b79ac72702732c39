/** Promises 1 to 9: functions, terms. */
public final class FunctionsTermsTest {
    private static final String THREE = "n;p30ob01fc12;d210c00f;w41bf20oc21";
    private static final Check check = new Check("FunctionsTermsTest");

    public static void main(String[] args) {
        newObject();
        textsTaken();
        textsThatEndTooSoon();
        textsWithAWrongCode();
        textsThatGoOnTooLong();
        textsInsideASheet();
        textsOfEachLane();
        faultsOfFunctions();
        aTextMakesAllAnew();
        ofFunctionTells();
        leavesAreMade();
        applyMakes();
        dropTakesAway();
        ofTermTells();
        pricesChange();
        check.end();
    }

    private static void newObject() {
        NeededAnswers x = new NeededAnswers();
        for (int what = 0; what <= 3; what++) {
            check.is("new many " + what, x.many(what), 0);
        }
        for (int k = 0; k <= 3; k++) {
            check.is("new lose", x.lose(k), 0);
            check.is("new put", x.put(k, 0, 0), -11);
        }
        check.is("new ofFunction", x.ofFunction(0, 0), -1);
        check.is("new ofTerm", x.ofTerm(0, 0), -1);
        check.is("new trace", x.trace(), 0);
        check.is("new fault", new NeededAnswers().fault(), 0);
    }

    private static void textsTaken() {
        String[] texts = {"n;p10000", "n;d91fff", "n;w50ooo", "n;p11c00c11c22", "n;p10b012bfffb2f0",
            "n;p10000;p10000", "n;p10000;d10000;w10000",
            "n;p10bfffbfffbfff;p10bfffbfffbfff;p10bfffbfffbfff"};
        int[] many = {1, 1, 1, 1, 1, 2, 3, 3};
        for (int k = 0; k < texts.length; k++) {
            NeededAnswers x = new NeededAnswers();
            check.is(texts[k], Check.take(x, texts[k]), many[k]);
            check.is(texts[k] + " many", x.many(0), many[k]);
            check.is(texts[k] + " fault", x.fault(), 0);
        }
    }

    private static void textsThatEndTooSoon() {
        for (int length = 0; length < THREE.length(); length++) {
            NeededAnswers x = new NeededAnswers();
            Check.lay(x, 0, 2, Check.codes(THREE));
            boolean whole = THREE.charAt(length) == ';' && length > 1;
            int due = whole ? THREE.substring(0, length).split(";").length - 1 : -100 - length;
            check.is("text ends at " + length, x.functions(0, 2, 0, length), due);
            check.is("ends too soon, many", x.many(0), Math.max(due, 0));
        }
    }

    private static void textsWithAWrongCode() {
        for (int place = 0; place < THREE.length(); place++) {
            for (int code : new int[] {120, 32, 47, 58, 0, -1, 1000, 110 + 256}) {
                NeededAnswers x = new NeededAnswers();
                int[] cells = Check.codes(THREE);
                cells[place] = code;
                Check.lay(x, 0, 2, cells);
                check.is("code " + code + " at " + place, x.functions(0, 2, 0, cells.length), -100 - place);
            }
        }
        String[] texts = {"p", "nn", "n;n", "n;p0", "n;p;", "n;p12", "n;p1o", "n;p103", "n;p10p", "n;p10n",
            "n;p10c3", "n;p10co", "n;p10cf", "n;p10c0f", "n;p10c03", "n;p10b3", "n;p10bo", "n;p10bc", "n;p10b0o",
            "n;p10b00b", "n;p10b00;", "n;p100;", "n;p1000;", "n;p10000o", "n;p10000n", "n;p100000", "n;p10000;;"};
        for (String text : texts) {
            check.is(text, Check.take(new NeededAnswers(), text), -100 - (text.length() - 1));
            check.is(text + "..", Check.take(new NeededAnswers(), text + "n;p10000"), -100 - (text.length() - 1));
        }
    }

    private static void textsThatGoOnTooLong() {
        String three = "n;p10000;p10000;p10000";
        check.is("a fourth one", Check.take(new NeededAnswers(), three + ";p10000"), -100 - three.length());
        check.is("its ; alone", Check.take(new NeededAnswers(), three + ";"), -100 - three.length());
        check.is("another code", Check.take(new NeededAnswers(), three + "0"), -100 - three.length());
    }

    private static void textsInsideASheet() {
        NeededAnswers x = new NeededAnswers();
        Check.lay(x, 1, 0, Check.codes("??n;p10012??"));
        check.is("inside", x.functions(1, 0, 2, 8), 1);
        check.is("inside, one code too many", x.functions(1, 0, 2, 9), -108);
        check.is("inside, one too few", x.functions(1, 0, 2, 7), -107);
        check.is("inside, begun too soon", x.functions(1, 0, 1, 9), -100);
        check.is("none of it", x.functions(1, 0, 5, 0), -100);
        check.is("none at its end", x.functions(1, 0, 12, 0), -100);
        check.is("a fault of the text is no FAULT", x.fault(), 0);
    }

    private static void textsOfEachLane() {
        for (int lane = 0; lane <= 2; lane++) {
            NeededAnswers x = new NeededAnswers();
            Check.lay(x, 2, lane, Check.codes("n;w20o1f"));
            check.is("lane " + lane, x.functions(2, lane, 0, 8), 1);
            check.is("kind, lane " + lane, x.ofFunction(0, 0), 2);
            x.put(2, 0, 110 + 256);
            check.is("cut to its lane " + lane, x.functions(2, lane, 0, 8), lane == 0 ? 1 : -100);
            x.put(2, 0, 110 + 65536);
            check.is("cut to its lane too " + lane, x.functions(2, lane, 0, 8), lane == 2 ? -100 : 1);
        }
    }

    private static void faultsOfFunctions() {
        NeededAnswers x = new NeededAnswers();
        Check.lay(x, 0, 1, Check.codes("n;p10012"));
        check.is("sheet -1", x.functions(-1, 7, -1, -1), -1);
        check.is("sheet 4", x.functions(4, 1, 0, 8), -1);
        check.is("lane -1", x.functions(0, -1, 0, 8), -2);
        check.is("lane 3", x.functions(1, 3, 0, 8), -2);
        check.is("CAST", x.functions(0, 0, -1, -1), -12);
        check.is("fault CAST", x.fault(), 2);
        check.is("NULL", x.functions(1, 0, -1, -1), -11);
        check.is("fault NULL", x.fault(), 1);
        check.is("SIZE", x.functions(0, 1, -1, -1), -14);
        check.is("fault SIZE", x.fault(), 4);
        check.is("refused", x.functions(0, 3, 0, 8), -2);
        check.is("fault of one refused", x.fault(), 0);
        int[][] beyond = {{-1, 0}, {9, 0}, {0, 9}, {8, 1}, {1, 8}, {1, Integer.MAX_VALUE},
            {Integer.MAX_VALUE, 1}, {Integer.MIN_VALUE, 8}, {Integer.MAX_VALUE, Integer.MAX_VALUE}};
        for (int[] b : beyond) {
            check.is("INDEX " + b[0] + " " + b[1], x.functions(0, 1, b[0], b[1]), -13);
            check.is("fault INDEX", x.fault(), 3);
        }
        check.is("still none", x.many(0), 0);
        check.is("taken", x.functions(0, 1, 0, 8), 1);
        check.is("fault of one taken", x.fault(), 0);
    }

    private static void aTextMakesAllAnew() {
        NeededAnswers x = Check.with(THREE);
        x.constant(0);
        x.unknown(1);
        x.given(2, 1);
        x.reading(0, 0);
        x.tell(0);
        x.kinds(0);
        check.is("faulty text", Check.take(x, "n;p10o"), -106);
        check.is("functions stay", x.many(0), 3);
        check.is("terms stay", x.many(1), 2);
        check.is("given stays", x.many(2), 1);
        check.is("readings stay", x.many(3), 1);
        check.is("function 0 stays", x.ofFunction(0, 1), 3);
        for (int v = 0; v <= 2; v++) {
            x.given(v, v);
        }
        x.branches(0);
        check.is("another text", Check.take(x, "n;d21210"), 1);
        check.is("functions anew", x.many(0), 1);
        check.is("no terms", x.many(1), 0);
        check.is("no given", x.many(2), 0);
        for (int v = 0; v <= 2; v++) {
            check.is("not given", x.given(v, 3), 3);
        }
        check.is("no readings", x.many(3), 0);
        check.is("trace stays", x.trace(), 1);
        check.is("sheet stays", x.cell(3, 0, 0), 110);
        check.is("function 0 anew", x.ofFunction(0, 0), 1);
        check.is("function 1 gone", x.ofFunction(1, 0), -1);
    }

    private static void ofFunctionTells() {
        NeededAnswers x = Check.with(THREE);
        int[][] due = {{0, 3, 3, 0, 3, 14, 10}, {1, 2, 3, 1, 0, 5, 4}, {2, 4, 8, 1, 14, 3, 12}};
        int[] what = {0, 1, 2, 3, 10, 11, 12};
        for (int f = 0; f < 3; f++) {
            for (int k = 0; k < what.length; k++) {
                check.is("ofFunction " + f + " " + what[k], x.ofFunction(f, what[k]), due[f][k]);
            }
            for (int wrong : new int[] {-1, 4, 9, 13, Integer.MIN_VALUE, Integer.MAX_VALUE}) {
                check.is("ofFunction what " + wrong, x.ofFunction(f, wrong), -2);
            }
        }
        check.is("function -1", x.ofFunction(-1, 99), -1);
        check.is("function 3", x.ofFunction(3, 0), -1);
        for (int first = 0; first <= 2; first++) {
            for (int second = 0; second <= 2; second++) {
                NeededAnswers y = Check.with("n;p10f" + first + "c" + first + second);
                check.is("choice", y.ofFunction(0, 12), 5 + 3 * first + second);
                check.is("value", y.ofFunction(0, 11), first);
                check.is("failure", y.ofFunction(0, 10), 4);
            }
        }
    }

    private static void leavesAreMade() {
        NeededAnswers none = new NeededAnswers();
        check.is("constant without functions", none.constant(9), -3);
        check.is("unknown without functions", none.unknown(9), -3);
        NeededAnswers x = Check.with("n;p10000");
        for (int wrong : new int[] {-1, 3, Integer.MIN_VALUE, Integer.MAX_VALUE}) {
            check.is("constant " + wrong, x.constant(wrong), -2);
            check.is("unknown " + wrong, x.unknown(wrong), -2);
        }
        for (int v = 0; v <= 2; v++) {
            check.is("constant", x.constant(v), 2 * v);
            check.is("unknown", x.unknown(v), 2 * v + 1);
        }
        check.is("a seventh constant", x.constant(0), -4);
        check.is("a seventh unknown", x.unknown(0), -4);
        check.is("OUTSIDE ahead of FULL", x.constant(3), -2);
        check.is("OUTSIDE ahead of FULL", x.unknown(-1), -2);
        check.is("six", x.many(1), 6);
    }

    private static void applyMakes() {
        NeededAnswers x = new NeededAnswers();
        check.is("no functions", x.apply(0, 0, 0), -1);
        x = Check.with("n;p10000;p10000");
        check.is("no terms", x.apply(0, 0, 0), -1);
        x.constant(1);
        x.constant(2);
        check.is("function -1", x.apply(-1, 0, 0), -1);
        check.is("function 2", x.apply(2, 0, 0), -1);
        check.is("a -1", x.apply(0, -1, 0), -1);
        check.is("a 2", x.apply(0, 2, 0), -1);
        check.is("b -1", x.apply(0, 0, -1), -1);
        check.is("b 2", x.apply(0, 0, 2), -1);
        check.is("over 1, 0", x.apply(1, 1, 0), 2);
        check.is("over one term twice", x.apply(0, 2, 2), 3);
        check.is("fifth", x.apply(0, 3, 0), 4);
        check.is("sixth", x.apply(0, 4, 4), 5);
        check.is("seventh", x.apply(0, 5, 5), -4);
        check.is("UNKNOWN ahead of FULL", x.apply(0, 6, 0), -1);
    }

    private static void dropTakesAway() {
        check.is("nothing to drop", new NeededAnswers().drop(), -3);
        NeededAnswers x = Check.with("n;p10000");
        check.is("no term to drop", x.drop(), -3);
        x.constant(0);
        x.constant(1);
        x.apply(0, 0, 1);
        x.reading(2, 5);
        x.reading(0, 0);
        x.reading(2, 6);
        x.reading(1, 7);
        check.is("one gone", x.drop(), 2);
        check.is("its readings gone", x.many(3), 2);
        check.is("term 2 gone", x.ofTerm(2, 0), -1);
        check.is("wrong reading stays", x.kinds(0), 0);
        check.is("number anew", x.constant(2), 2);
        check.is("what it is anew", x.ofTerm(2, 0), 0);
        check.is("no reading of it", x.many(3), 2);
        check.is("drop again", x.drop(), 2);
        check.is("drop 1", x.drop(), 1);
        check.is("the wrong one went with it", x.kinds(0), 7);
        check.is("reading of 0 stays", x.many(3), 1);
        check.is("drop 0", x.drop(), 0);
        check.is("no readings left", x.many(3), 0);
        check.is("none left", x.drop(), -3);
    }

    private static void ofTermTells() {
        NeededAnswers x = Check.with("n;p10000;p10000");
        x.constant(2);
        x.unknown(1);
        x.apply(1, 1, 0);
        int[][] due = {{0, 2, -9, -9}, {1, 1, -9, -9}, {2, 1, 1, 0}};
        for (int t = 0; t < 3; t++) {
            for (int what = 0; what < 4; what++) {
                check.is("ofTerm " + t + " " + what, x.ofTerm(t, what), due[t][what]);
            }
            check.is("what -1", x.ofTerm(t, -1), -2);
            check.is("what 4", x.ofTerm(t, 4), -2);
        }
        check.is("term -1", x.ofTerm(-1, 9), -1);
        check.is("term 3", x.ofTerm(3, 0), -1);
    }

    private static void pricesChange() {
        NeededAnswers x = Check.with("n;p30000;d40000;w50000");
        int[] was = {3, 4, 5};
        int[] cost = {9, 10, 18};
        for (int f = 0; f < 3; f++) {
            check.is("price 0", x.price(f, 0), -2);
            check.is("price 10", x.price(f, 10), -2);
            check.is("price -1", x.price(f, -1), -2);
            check.is("unchanged", x.ofFunction(f, 1), was[f]);
            check.is("was", x.price(f, 9), was[f]);
            check.is("was then", x.price(f, 1), 9);
            check.is("now", x.ofFunction(f, 1), 1);
            x.price(f, 9);
            check.is("cost", x.ofFunction(f, 2), cost[f]);
        }
        check.is("function -1", x.price(-1, 0), -1);
        check.is("function 3", x.price(3, 1), -1);
    }
}
