/** The boundary cases that block 4 and promises 20 to 30 name; what is refused there is in RefusalsTest. */
public final class SheetsPartsEdgesTest {
    private static final int LEAST = Integer.MIN_VALUE, MOST = Integer.MAX_VALUE;
    private static final long LOST = Long.MIN_VALUE;
    private static final Check check = new Check("SheetsPartsEdgesTest");

    public static void main(String[] args) {
        rowsOfEachLength();
        aRowOfNoNumbersIsNotNothing();
        numbersAreZeroAtFirst();
        aNewRowInPlaceOfAnother();
        sheetsAreApart();
        loseTwice();
        cutToBytes();
        cutToShorts();
        intsAreNotCut();
        takenAsTheLaneItHas();
        copyOfNone();
        copyOfAll();
        copyToItself();
        copyByLanes();
        nothingAheadOfUnlikeLanes();
        tellingOfEachKind();
        notedByEachKind();
        traceIsFromAllBodies();
        traceWraps();
        asEachKind();
        faultOfEachNumber();
        faultOfTheLatestCallThatNamesOne();
        manyWithoutFunctions();
        manyAtMost();
        theFiveHundredAndTwelfthCall();
        check.end();
    }

    /** "A row of 0 .. 60 numbers": each has its cells and no further one. */
    private static void rowsOfEachLength() {
        for (int lane = 0; lane <= 2; lane++) {
            for (int n = 0; n <= 60; n++) {
                NeededAnswers x = new NeededAnswers();
                check.is("row of " + n, x.sheet(3, lane, n), 1);
                check.is("no fault", x.fault(), 0);
                check.is("no cell " + n, x.put(3, n, 1), -13);
                check.is("no cell -1", x.put(3, -1, 1), -13);
                check.is("nor to take", x.cell(3, n, lane), LOST);
                check.is("its fault", x.fault(), 3);
                if (n > 0) {
                    check.is("the last cell", x.put(3, n - 1, 9), 1);
                    check.is("the last cell's number", x.cell(3, n - 1, lane), 9);
                    check.is("the first cell", x.put(3, 0, 8), 1);
                    check.is("the first cell's number", x.cell(3, 0, lane), 8);
                }
            }
            check.is("row of 61", new NeededAnswers().sheet(3, lane, 61), -2);
            check.is("row of -1", new NeededAnswers().sheet(3, lane, -1), -14);
            check.is("row of the most", new NeededAnswers().sheet(3, lane, MOST), -2);
            check.is("row of the least", new NeededAnswers().sheet(3, lane, LEAST), -14);
        }
    }

    private static void aRowOfNoNumbersIsNotNothing() {
        for (int lane = 0; lane <= 2; lane++) {
            NeededAnswers x = new NeededAnswers();
            check.is("nothing: put", x.put(0, 0, 1), -11);
            check.is("nothing: cell", x.cell(0, 0, lane), LOST);
            check.is("nothing: cell, fault", x.fault(), 1);
            x.sheet(0, lane, 0);
            check.is("no numbers: put", x.put(0, 0, 1), -13);
            check.is("no numbers: cell", x.cell(0, 0, lane), LOST);
            check.is("no numbers: cell, fault", x.fault(), 3);
            check.is("no numbers: cell of another lane", x.cell(0, 0, (lane + 1) % 3), LOST);
            check.is("no numbers: CAST", x.fault(), 2);
            check.is("no numbers: a text", x.functions(0, lane, 0, 0), -100);
            check.is("no numbers: copied", x.copy(0, 0, 0, 0, 0), 0);
            check.is("no numbers: lost", x.lose(0), 1);
            check.is("nothing again", x.put(0, 0, 1), -11);
            check.is("nothing again: a text", x.functions(0, lane, 0, 0), -11);
            check.is("nothing again: copied", x.copy(0, 0, 0, 0, 0), -11);
        }
    }

    private static void numbersAreZeroAtFirst() {
        NeededAnswers x = new NeededAnswers();
        for (int round = 0; round <= 1; round++) {
            check.is("a row", x.sheet(2, 2, 60), 1);
            for (int i = 0; i < 60; i++) {
                check.is("0 at first", x.cell(2, i, 2), 0);
                x.put(2, i, i - 30);
            }
        }
        check.is("lost", x.lose(2), 1);
        check.is("a row again", x.sheet(2, 2, 60), 1);
        for (int i = 0; i < 60; i++) {
            check.is("0 again", x.cell(2, i, 2), 0);
        }
    }

    private static void aNewRowInPlaceOfAnother() {
        for (int lane = 0; lane <= 2; lane++) {
            for (int other = 0; other <= 2; other++) {
                NeededAnswers x = new NeededAnswers();
                Check.lay(x, 1, lane, 5, 6, 7);
                check.is("refused: the old one stays", x.sheet(1, other, 61), -2);
                check.is("faulty: the old one stays", x.sheet(1, other, -1), -14);
                check.is("the old one", x.cell(1, 2, lane), 7);
                check.is("a shorter one", x.sheet(1, other, 2), 1);
                check.is("its lane", x.cell(1, 1, other), 0);
                check.is("its end", x.put(1, 2, 7), -13);
                check.is("a longer one", x.sheet(1, lane, 4), 1);
                check.is("its cells", x.cell(1, 2, lane), 0);
                check.is("its last cell", x.put(1, 3, 7), 1);
            }
        }
    }

    /** SHEETS 0 .. 3. */
    private static void sheetsAreApart() {
        NeededAnswers x = new NeededAnswers();
        for (int k = 0; k <= 3; k++) {
            check.is("sheet " + k, x.sheet(k, k % 3, 3 + k), 1);
            x.put(k, 2 + k, 50 + k);
        }
        for (int k = 0; k <= 3; k++) {
            check.is("its last cell", x.cell(k, 2 + k, k % 3), 50 + k);
            check.is("its first cell", x.cell(k, 0, k % 3), 0);
        }
        check.is("lose one", x.lose(1), 1);
        check.is("the one before stays", x.cell(0, 2, 0), 50);
        check.is("the one behind stays", x.cell(2, 4, 2), 52);
        check.is("sheet 4", x.sheet(4, 0, 3), -1);
        check.is("sheet -1", x.sheet(-1, 0, 3), -1);
    }

    private static void loseTwice() {
        NeededAnswers x = new NeededAnswers();
        for (int k = 0; k <= 3; k++) {
            check.is("it had nothing", x.lose(k), 0);
            x.sheet(k, 0, 0);
            check.is("it had a row", x.lose(k), 1);
            check.is("it has nothing", x.lose(k), 0);
        }
    }

    /** "What comes to a cell of it is cut to its LANE." */
    private static void cutsAre(int lane, long[][] cuts) {
        NeededAnswers x = new NeededAnswers();
        x.sheet(0, lane, 3);
        x.sheet(1, lane, 3);
        for (long[] cut : cuts) {
            check.is("put " + cut[0], x.put(0, 1, (int) cut[0]), 1);
            check.is(cut[0] + " in lane " + lane, x.cell(0, 1, lane), cut[1]);
            check.is("copied", x.copy(0, 1, 1, 2, 1), 1);
            check.is(cut[0] + " copied in lane " + lane, x.cell(1, 2, lane), cut[1]);
        }
        check.is("the cell before", x.cell(0, 0, lane), 0);
        check.is("the cell behind", x.cell(0, 2, lane), 0);
    }

    private static void cutToBytes() {
        cutsAre(0, new long[][] {{127, 127}, {128, -128}, {129, -127}, {255, -1}, {256, 0}, {257, 1}, {-1, -1},
            {-128, -128}, {-129, 127}, {-256, 0}, {-257, -1}, {32767, -1}, {32768, 0}, {65535, -1}, {65536, 0},
            {1000, -24}, {MOST, -1}, {LEAST, 0}, {LEAST + 1, 1}, {0, 0}});
    }

    private static void cutToShorts() {
        cutsAre(1, new long[][] {{127, 127}, {128, 128}, {255, 255}, {-129, -129}, {32767, 32767}, {32768, -32768},
            {32769, -32767}, {65535, -1}, {65536, 0}, {65537, 1}, {-32768, -32768}, {-32769, 32767}, {-65536, 0},
            {-65537, -1}, {100000, -31072}, {MOST, -1}, {LEAST, 0}, {LEAST + 1, 1}, {0, 0}});
    }

    private static void intsAreNotCut() {
        cutsAre(2, new long[][] {{127, 127}, {128, 128}, {32768, 32768}, {-32769, -32769}, {65536, 65536}, {MOST, MOST},
            {LEAST, LEAST}, {LEAST + 1, LEAST + 1}, {-1, -1}, {0, 0}});
    }

    /** "Taken as a row of a LANE": as no other than its own, and nothing is of every lane. */
    private static void takenAsTheLaneItHas() {
        for (int lane = 0; lane <= 2; lane++) {
            NeededAnswers x = Check.with("n;p10000");
            x.sheet(0, lane, 1);
            for (int as = 0; as <= 2; as++) {
                boolean same = as == lane;
                check.is("cell", x.cell(0, 0, as), same ? 0 : LOST);
                check.is("cell, fault", x.fault(), same ? 0 : 2);
                check.is("functions", x.functions(0, as, 0, 1), same ? -100 : -12);
                check.is("functions, fault", x.fault(), same ? 0 : 2);
                check.is("day", x.day(0, as, 0, 0, 0), same ? 0 : -12);
                check.is("day, fault", x.fault(), same ? 0 : 2);
                check.is("nothing: cell", x.cell(1, 0, as), LOST);
                check.is("nothing: cell, fault", x.fault(), 1);
                check.is("nothing: functions", x.functions(1, as, 0, 1), -11);
                check.is("nothing: day", x.day(1, as, 0, 0, 0), -11);
            }
        }
    }

    private static void rowIs(NeededAnswers x, int k, int lane, int... due) {
        for (int i = 0; i < due.length; i++) {
            check.is("cell " + i + " of " + k, x.cell(k, i, lane), due[i]);
        }
    }

    /** n is 0: i, j may be 0 .. how many cells there are, at either side. */
    private static void copyOfNone() {
        int[] sizes = {0, 1, 4, 60};
        for (int from : sizes) {
            for (int to : sizes) {
                NeededAnswers x = new NeededAnswers();
                x.sheet(0, 1, from);
                x.sheet(1, 1, to);
                int[][] taken = {{0, 0}, {from, 0}, {0, to}, {from, to}};
                for (int[] at : taken) {
                    check.is("none of " + from + ", " + to, x.copy(0, at[0], 1, at[1], 0), 0);
                    check.is("no fault", x.fault(), 0);
                }
                int[][] beyond = {{-1, 0}, {from + 1, 0}, {0, -1}, {0, to + 1}, {LEAST, 0}, {MOST, to}, {from, LEAST}, {0, MOST}};
                for (int[] at : beyond) {
                    check.is("none beyond " + from + ", " + to, x.copy(0, at[0], 1, at[1], 0), -13);
                    check.is("fault", x.fault(), 3);
                }
                check.is("less than none", x.copy(0, 0, 1, 0, -1), -13);
                check.is("it is no SIZE", x.fault(), 3);
            }
        }
    }

    private static void copyOfAll() {
        for (int lane = 0; lane <= 2; lane++) {
            NeededAnswers x = new NeededAnswers();
            x.sheet(0, lane, 60);
            x.sheet(1, lane, 60);
            for (int i = 0; i < 60; i++) {
                x.put(0, i, i + 1);
            }
            check.is("61", x.copy(0, 0, 1, 0, 61), -13);
            check.is("60 from 1 on", x.copy(0, 1, 1, 0, 60), -13);
            check.is("60 to 1 on", x.copy(0, 0, 1, 1, 60), -13);
            rowIs(x, 1, lane, 0, 0, 0);
            check.is("60", x.copy(0, 0, 1, 0, 60), 60);
            for (int i = 0; i < 60; i++) {
                check.is("copied", x.cell(1, i, lane), i + 1);
            }
            check.is("the last to the first", x.copy(0, 59, 1, 0, 1), 1);
            check.is("the first to the last", x.copy(0, 0, 1, 59, 1), 1);
            check.is("the first", x.cell(1, 0, lane), 60);
            check.is("the last", x.cell(1, 59, lane), 1);
            check.is("the second", x.cell(1, 1, lane), 2);
        }
    }

    /** "Another one (perhaps the same) .. as they were." */
    private static void copyToItself() {
        int[][] due = {{0, 0, 5, 1, 2, 3, 4, 5}, {0, 1, 4, 1, 1, 2, 3, 4}, {1, 0, 4, 2, 3, 4, 5, 5}, {0, 2, 3, 1, 2, 1, 2, 3},
            {2, 0, 3, 3, 4, 5, 4, 5}, {0, 4, 1, 1, 2, 3, 4, 1}, {4, 0, 1, 5, 2, 3, 4, 5}, {3, 3, 2, 1, 2, 3, 4, 5},
            {5, 5, 0, 1, 2, 3, 4, 5}};
        for (int lane = 0; lane <= 2; lane++) {
            for (int[] row : due) {
                NeededAnswers x = new NeededAnswers();
                Check.lay(x, 3, lane, 1, 2, 3, 4, 5);
                check.is("copy", x.copy(3, row[0], 3, row[1], row[2]), row[2]);
                rowIs(x, 3, lane, java.util.Arrays.copyOfRange(row, 3, 8));
            }
        }
    }

    private static void copyByLanes() {
        for (int lane = 0; lane <= 2; lane++) {
            for (int other = 0; other <= 2; other++) {
                NeededAnswers x = new NeededAnswers();
                Check.lay(x, 0, lane, 1, 2);
                Check.lay(x, 1, other, 3, 4);
                check.is("copy", x.copy(0, 0, 1, 0, 2), lane == other ? 2 : -12);
                check.is("fault", x.fault(), lane == other ? 0 : 2);
                check.is("to", x.cell(1, 1, other), lane == other ? 2 : 4);
                check.is("none of it", x.copy(0, 0, 1, 0, 0), lane == other ? 0 : -12);
                check.is("beyond", x.copy(0, 3, 1, 0, 0), lane == other ? -13 : -12);
            }
        }
    }

    private static void nothingAheadOfUnlikeLanes() {
        for (int lane = 0; lane <= 2; lane++) {
            NeededAnswers x = new NeededAnswers();
            x.sheet(0, lane, 2);
            check.is("the first", x.copy(1, 0, 0, 0, 1), -11);
            check.is("the other", x.copy(0, 0, 1, 0, 1), -11);
            check.is("both", x.copy(1, 9, 2, 9, -9), -11);
            check.is("fault", x.fault(), 1);
        }
    }

    /** PLAIN: PRICE; DEAR: that and 100; DOUBLE: what DEAR's gives, and what PLAIN's gives. */
    private static void tellingOfEachKind() {
        for (int price = 1; price <= 9; price++) {
            NeededAnswers x = Check.with("n;p" + price + "0000;d" + price + "0000;w" + price + "0000");
            int[] due = {price, price + 100, price + 100 + price};
            for (int f = 0; f <= 2; f++) {
                check.is("tell " + f, x.tell(f), due[f]);
            }
            check.is("no function 3", x.tell(3), -1);
            check.is("no function -1", x.tell(-1), -1);
        }
    }

    /** Its number; DOUBLE ones have their own: 30. */
    private static void notedByEachKind() {
        char[] kinds = {'p', 'd', 'w'};
        for (char kind : kinds) {
            NeededAnswers x = Check.with("n;" + kind + "10000;" + kind + "20000;" + kind + "30000");
            int trace = 0;
            for (int f = 0; f <= 2; f++) {
                check.is("note " + f + " " + kind, x.note(f), kind == 'w' ? 30 : f);
                trace = Check.after(trace, kind == 'w' ? 5 : 4);
                check.is("its trace", x.trace(), trace);
            }
            check.is("no function 3", x.note(3), -1);
            check.is("no function -1", x.note(-1), -1);
            check.is("no trace of these", x.trace(), trace);
        }
    }

    /** 0 at first; each body leaves its number as it begins. */
    private static void traceIsFromAllBodies() {
        int[][] bodies = {{1}, {2, 1}, {3, 2, 1, 1}};
        for (int f = 0; f <= 2; f++) {
            NeededAnswers x = Check.with("n;p10000;d10000;w10000");
            check.is("0 at first", x.trace(), 0);
            x.tell(f);
            check.is("trace of " + f, x.trace(), Check.after(0, bodies[f]));
            x.note(f);
            check.is("and noted", x.trace(), Check.after(Check.after(0, bodies[f]), f == 2 ? 5 : 4));
            check.is("asked again", x.trace(), Check.after(Check.after(0, bodies[f]), f == 2 ? 5 : 4));
            x.kinds(f);
            x.as(f, 2);
            x.ofFunction(f, 2);
            check.is("none by other calls", x.trace(), Check.after(Check.after(0, bodies[f]), f == 2 ? 5 : 4));
        }
    }

    /** "An int that wraps": worked out beyond an int's room, and cut to it. */
    private static void traceWraps() {
        NeededAnswers x = Check.with("n;p10000;d10000;w10000");
        java.math.BigInteger whole = java.math.BigInteger.ZERO;
        boolean below = false;
        boolean above = false;
        for (int k = 0; k < 200; k++) {
            x.note(k % 3);
            whole = whole.multiply(java.math.BigInteger.valueOf(31)).add(java.math.BigInteger.valueOf(k % 3 == 2 ? 5 : 4));
            int trace = x.trace();
            check.is("trace " + k, trace, whole.intValue());
            below |= trace < 0;
            above |= k > 9 && trace > 0;
        }
        check.is("it was below 0", below ? 1 : 0, 1);
        check.is("and above", above ? 1 : 0, 1);
    }

    /** "Each is a PLAIN one, too; a DOUBLE one is a DEAR one." */
    private static void asEachKind() {
        NeededAnswers x = Check.with("n;p10000;d10000;w10000");
        int[][] due = {{1, -12, -12}, {1, 1, -12}, {1, 1, 1}};
        for (int f = 0; f <= 2; f++) {
            for (int kind = 0; kind <= 2; kind++) {
                check.is(f + " as " + kind, x.as(f, kind), due[f][kind]);
                check.is("fault", x.fault(), due[f][kind] == 1 ? 0 : 2);
            }
            check.is("as -1", x.as(f, -1), -2);
            check.is("as 3", x.as(f, 3), -2);
        }
        check.is("no function 3", x.as(3, 0), -1);
    }

    /** 1 NULL, 2 CAST, 3 INDEX, 4 SIZE: a call that comes to one answers -10 less it, or LOST. */
    private static void faultOfEachNumber() {
        NeededAnswers x = new NeededAnswers();
        check.is("ahead of any", x.fault(), 0);
        x.sheet(0, 0, 1);
        long[] got = {x.put(1, 0, 0), x.functions(0, 1, 0, 0), x.put(0, 1, 0), x.sheet(0, 0, -1)};
        for (int k = 0; k < 4; k++) {
            check.is("FAULT " + (k + 1), got[k], -11 - k);
        }
        check.is("the latest", x.fault(), 4);
        check.is("asked again", x.fault(), 4);
        check.is("LOST", x.cell(1, 0, 0), LOST);
        check.is("LOST by NULL", x.fault(), 1);
        check.is("LOST", x.cell(0, 0, 1), LOST);
        check.is("LOST by CAST", x.fault(), 2);
        check.is("LOST", x.cell(0, 1, 0), LOST);
        check.is("LOST by INDEX", x.fault(), 3);
        check.is("LOST", x.cell(4, 0, 0), LOST);
        check.is("LOST by a refusal", x.fault(), 0);
    }

    /** "0: it came to none, or was refused": but by a call that names no FAULTS it stays. */
    private static void faultOfTheLatestCallThatNamesOne() {
        Object[][] clear = {{"functions", 0, 0, 0, 10}, {"functions", 0, 0, 0, 3}, {"functions", 4, 0, 0, 0}, {"day", 2, 2, 0, 3, 0},
            {"day", 2, 2, 0, 0, 5}, {"sheet", 0, 0, 0}, {"sheet", 0, 0, 61}, {"put", 0, 0, 0}, {"put", 4, 0, 0}, {"cell", 0, 0, 0},
            {"cell", 0, 0, 3}, {"copy", 0, 0, 0, 0, 0}, {"copy", 0, 0, 4, 0, 0}, {"as", 0, 0}, {"as", 0, 3}};
        Object[][] keep = {{"ofFunction", 0, 0}, {"ofFunction", 3, 0}, {"constant", 0}, {"constant", 3}, {"unknown", 0},
            {"unknown", 3}, {"apply", 0, 0, 0}, {"apply", 3, 0, 0}, {"drop"}, {"ofTerm", 0, 0}, {"ofTerm", 9, 0}, {"price", 0, 1},
            {"price", 0, 0}, {"given", 0, 0}, {"given", 3, 0}, {"needs", 0, 0}, {"needs", 0, 3}, {"answers", 0, 0},
            {"answers", 0, 4}, {"answer", 0, 0, 0}, {"answer", 0, -1, 0}, {"reading", 0, 0}, {"reading", 0, 201}, {"back", 0},
            {"back", 9}, {"kinds", 0}, {"kinds", 3}, {"branches", 0}, {"branches", 3}, {"odds", 0, 0, 0}, {"odds", 0, 4, 0},
            {"lose", 0}, {"lose", 3}, {"lose", 4}, {"tell", 0}, {"tell", 3}, {"note", 0}, {"note", 3}, {"trace"}, {"fault"},
            {"many", 0}, {"many", 4}};
        for (int fault = 1; fault <= 4; fault++) {
            for (Object[] call : clear) check.is("fault() by " + call[0], faultBehind(fault, call), 0);
            for (Object[] call : keep) check.is("fault() kept by " + call[0], faultBehind(fault, call), fault);
        }
    }

    private static int faultBehind(int fault, Object[] call) {
        NeededAnswers x = Made.busy();
        if (fault == 1) x.put(3, 0, 0);
        if (fault == 2) x.as(0, 2);
        if (fault == 3) x.put(0, -1, 0);
        if (fault == 4) x.sheet(0, 0, -1);
        int[] numbers = new int[call.length - 1];
        for (int k = 0; k < numbers.length; k++) numbers[k] = (Integer) call[k + 1];
        Calls.call(x, (String) call[0], numbers);
        return x.fault();
    }

    /** "(0 all without FUNCTIONS)." */
    private static void manyWithoutFunctions() {
        NeededAnswers x = Made.bare();
        x.constant(0);
        x.given(0, 0);
        x.reading(0, 0);
        for (int what = 0; what <= 3; what++) {
            check.is("many " + what, x.many(what), 0);
        }
        check.is("many 4", x.many(4), -2);
        check.is("many -1", x.many(-1), -2);
    }

    private static void manyAtMost() {
        NeededAnswers x = Made.full();
        int[] due = {3, 6, 3, 8};
        for (int what = 0; what <= 3; what++) {
            check.is("many at most " + what, x.many(what), due[what]);
        }
        check.is("many 4", x.many(4), -2);
    }

    /** An object answers up to its 512th call. */
    private static void theFiveHundredAndTwelfthCall() {
        NeededAnswers x = Check.with("n;p10000");
        x.constant(0);
        x.apply(0, 0, 0);
        // Ten calls to lay and take the text, and two for the terms.
        for (int calls = 12; calls < 511; calls++) {
            check.is("reading", calls % 2 == 0 ? x.reading(1, 1) : x.back(1), 0);
        }
        check.is("the last call, by the one reading that stands", x.kinds(0), 0b001);
    }
}
