/** The refusals and faults of each call, in the order in which its line tells them: at both sides of each bound, two at
 * once, the smallest and the largest int; what fault() tells then; and that nothing else has changed. */
public final class RefusalsTest {
    private static final int LEAST = Integer.MIN_VALUE, MOST = Integer.MAX_VALUE, KEPT = Twins.KEPT;
    private static final int UNKNOWN = -1, OUTSIDE = -2, STATE = -3, FULL = -4;
    private static final int NULL = 1, CAST = 2, INDEX = 3, SIZE = 4;
    private static final long LOST = Long.MIN_VALUE;
    private static final Check check = new Check("RefusalsTest");
    private static final Twins fresh = new Twins(check, NeededAnswers::new);
    private static final Twins bare = new Twins(check, Made::bare);
    private static final Twins ready = new Twins(check, Made::ready);
    private static final Twins busy = new Twins(check, Made::busy);
    private static final Twins full = new Twins(check, Made::full);
    private static final Twins[] all = {fresh, bare, ready, busy, full};

    private static final int[] NO_SHEET = {-1, 4, LEAST, MOST};
    private static final int[] NO_LANE = {-1, 3, LEAST, MOST};
    private static final int[] NO_FUNCTION = {-1, 3, LEAST, MOST};
    private static final int[] NO_TERM_OF_BUSY = {-1, 4, LEAST, MOST};
    private static final int[] NO_VALUE = {-1, 3, LEAST, MOST};

    public static void main(String[] args) {
        functions();
        functionsByFaultyTexts();
        ofFunction();
        constantAndUnknown();
        apply();
        drop();
        ofTerm();
        price();
        given();
        needs();
        answersOfATerm();
        oneAnswer();
        dayByItsNumbers();
        dayByItsCells();
        dayByItsPairs();
        reading();
        back();
        kindsAndBranches();
        odds();
        sheet();
        lose();
        put();
        cell();
        copy();
        tellAndNote();
        as();
        many();
        check.end();
    }

    /** A fault of a call that answers an int. */
    private static void faulty(Twins twins, int fault, String name, int... numbers) {
        twins.refused(-10 - fault, fault, name, numbers);
    }

    /** UNKNOWN; OUTSIDE: lane; CAST (nothing is no CAST), NULL, SIZE, INDEX. */
    private static void functions() {
        for (int sheet : NO_SHEET) {
            for (Twins twins : all) {
                twins.refused(UNKNOWN, 0, "functions", sheet, 0, 0, 0);
            }
            busy.refused(UNKNOWN, 0, "functions", sheet, 3, -1, -1);
        }
        for (int lane : NO_LANE) {
            busy.refused(OUTSIDE, 0, "functions", 0, lane, 0, 10);
            busy.refused(OUTSIDE, 0, "functions", 3, lane, 0, 10);
            busy.refused(OUTSIDE, 0, "functions", 0, lane, -1, -1);
        }
        int[][] unlike = {{0, 1}, {0, 2}, {1, 0}, {1, 2}, {2, 0}, {2, 1}};
        for (int[] of : unlike) {
            faulty(busy, CAST, "functions", of[0], of[1], 0, 4);
            faulty(busy, CAST, "functions", of[0], of[1], 0, -1);
            faulty(busy, CAST, "functions", of[0], of[1], 99, 4);
        }
        for (int lane = 0; lane <= 2; lane++) {
            faulty(busy, NULL, "functions", 3, lane, 0, 0);
            faulty(busy, NULL, "functions", 3, lane, 0, -1);
            faulty(busy, NULL, "functions", 3, lane, -1, 1);
            faulty(fresh, NULL, "functions", lane, lane, 0, 0);
        }
        for (int n : new int[] {-1, LEAST}) {
            faulty(busy, SIZE, "functions", 0, 0, 0, n);
            faulty(busy, SIZE, "functions", 0, 0, -1, n);
            faulty(busy, SIZE, "functions", 0, 0, 11, n);
            faulty(bare, SIZE, "functions", 2, 2, MOST, n);
        }
        int[][] beyond = {{-1, 0}, {11, 0}, {LEAST, 0}, {MOST, 0}, {-1, 1}, {-1, 10}, {0, 11}, {1, 10}, {9, 2}, {10, 1},
            {11, 1}, {0, MOST}, {10, MOST}, {MOST, 1}, {MOST, MOST}, {LEAST, MOST}, {LEAST, 10}};
        for (int[] cells : beyond) {
            faulty(busy, INDEX, "functions", 0, 0, cells[0], cells[1]);
        }
    }

    /** A TEXT with a FIRST FAULT is no FAULT, and all stays as it was. */
    private static void functionsByFaultyTexts() {
        for (int n = 0; n < 10; n++) {
            busy.refused(-100 - n, 0, "functions", 0, 0, 0, n);
            full.refused(-100 - n, 0, "functions", 0, 0, 0, n);
        }
        for (int i = 1; i <= 10; i++) {
            busy.refused(-100, 0, "functions", 0, 0, i, 10 - i);
            busy.refused(-100, 0, "functions", 0, 0, i, 0);
        }
        bare.refused(-100, 0, "functions", 2, 2, 0, 4);
        bare.refused(-100, 0, "functions", 1, 1, 4, 0);
    }

    /** UNKNOWN; OUTSIDE: what (0 .. 3, 10 .. 12). */
    private static void ofFunction() {
        for (int f : NO_FUNCTION) {
            busy.refused(UNKNOWN, KEPT, "ofFunction", f, 0);
            busy.refused(UNKNOWN, KEPT, "ofFunction", f, 4);
        }
        fresh.refused(UNKNOWN, KEPT, "ofFunction", 0, 0);
        for (int what : new int[] {-1, 4, 9, 13, LEAST, MOST, LEAST + 10, LEAST + 12}) {
            busy.refused(OUTSIDE, KEPT, "ofFunction", 0, what);
            busy.refused(OUTSIDE, KEPT, "ofFunction", 2, what);
        }
    }

    /** STATE: there are no FUNCTIONS; OUTSIDE; FULL. */
    private static void constantAndUnknown() {
        for (String name : new String[] {"constant", "unknown"}) {
            for (int v : new int[] {0, 2, -1, 3, LEAST, MOST}) {
                fresh.refused(STATE, KEPT, name, v);
                bare.refused(STATE, KEPT, name, v);
            }
            for (int v : NO_VALUE) {
                ready.refused(OUTSIDE, KEPT, name, v);
                full.refused(OUTSIDE, KEPT, name, v);
            }
            for (int v = 0; v <= 2; v++) {
                full.refused(FULL, KEPT, name, v);
            }
        }
    }

    /** UNKNOWN: FUNCTION, a, b; FULL. */
    private static void apply() {
        fresh.refused(UNKNOWN, KEPT, "apply", 0, 0, 0);
        ready.refused(UNKNOWN, KEPT, "apply", 0, 0, 0);
        for (int f : NO_FUNCTION) {
            busy.refused(UNKNOWN, KEPT, "apply", f, 0, 0);
            full.refused(UNKNOWN, KEPT, "apply", f, 0, 0);
        }
        for (int t : NO_TERM_OF_BUSY) {
            busy.refused(UNKNOWN, KEPT, "apply", 0, t, 0);
            busy.refused(UNKNOWN, KEPT, "apply", 0, 3, t);
        }
        for (int t : new int[] {-1, 6, LEAST, MOST}) {
            full.refused(UNKNOWN, KEPT, "apply", 0, t, 0);
            full.refused(UNKNOWN, KEPT, "apply", 0, 5, t);
        }
        full.refused(FULL, KEPT, "apply", 0, 0, 0);
        full.refused(FULL, KEPT, "apply", 2, 5, 5);
    }

    /** STATE: there is none. */
    private static void drop() {
        fresh.refused(STATE, KEPT, "drop");
        bare.refused(STATE, KEPT, "drop");
        ready.refused(STATE, KEPT, "drop");
    }

    /** UNKNOWN; OUTSIDE. */
    private static void ofTerm() {
        fresh.refused(UNKNOWN, KEPT, "ofTerm", 0, 0);
        ready.refused(UNKNOWN, KEPT, "ofTerm", 0, 4);
        for (int t : NO_TERM_OF_BUSY) {
            busy.refused(UNKNOWN, KEPT, "ofTerm", t, 0);
            busy.refused(UNKNOWN, KEPT, "ofTerm", t, -1);
        }
        full.refused(UNKNOWN, KEPT, "ofTerm", 6, 0);
        for (int what : new int[] {-1, 4, LEAST, MOST}) {
            busy.refused(OUTSIDE, KEPT, "ofTerm", 0, what);
            busy.refused(OUTSIDE, KEPT, "ofTerm", 3, what);
        }
    }

    /** PRICE becomes v (1 .. 9). UNKNOWN; OUTSIDE. */
    private static void price() {
        fresh.refused(UNKNOWN, KEPT, "price", 0, 1);
        for (int f : NO_FUNCTION) {
            busy.refused(UNKNOWN, KEPT, "price", f, 1);
            busy.refused(UNKNOWN, KEPT, "price", f, 0);
        }
        for (int v : new int[] {0, 10, -1, LEAST, MOST}) {
            for (int f = 0; f <= 2; f++) {
                busy.refused(OUTSIDE, KEPT, "price", f, v);
            }
        }
    }

    /** STATE: there are no FUNCTIONS; OUTSIDE: x, v. */
    private static void given() {
        fresh.refused(STATE, KEPT, "given", 0, 0);
        bare.refused(STATE, KEPT, "given", 0, 3);
        bare.refused(STATE, KEPT, "given", 3, 4);
        bare.refused(STATE, KEPT, "given", LEAST, MOST);
        for (int x : NO_VALUE) {
            busy.refused(OUTSIDE, KEPT, "given", x, 0);
            busy.refused(OUTSIDE, KEPT, "given", x, 3);
        }
        for (int v : new int[] {-1, 4, LEAST, MOST}) {
            for (int x = 0; x <= 2; x++) {
                busy.refused(OUTSIDE, KEPT, "given", x, v);
                full.refused(OUTSIDE, KEPT, "given", x, v);
            }
        }
    }

    private static void ofATerm(String name, int firstWhatBeyond) {
        fresh.refused(UNKNOWN, KEPT, name, 0, 0);
        ready.refused(UNKNOWN, KEPT, name, 0, -1);
        for (int t : NO_TERM_OF_BUSY) {
            busy.refused(UNKNOWN, KEPT, name, t, 0);
            busy.refused(UNKNOWN, KEPT, name, t, firstWhatBeyond);
        }
        full.refused(UNKNOWN, KEPT, name, 6, 0);
        for (int what : new int[] {-1, firstWhatBeyond, LEAST, MOST}) {
            busy.refused(OUTSIDE, KEPT, name, 0, what);
            busy.refused(OUTSIDE, KEPT, name, 3, what);
        }
    }

    private static void needs() {
        ofATerm("needs", 3);
    }

    private static void answersOfATerm() {
        ofATerm("answers", 4);
    }

    /** UNKNOWN; OUTSIDE: k below 0, what (0 .. 5, 10 .. 12); NONE: there are not so many. */
    private static void oneAnswer() {
        fresh.refused(UNKNOWN, KEPT, "answer", 0, 0, 0);
        ready.refused(UNKNOWN, KEPT, "answer", 0, -1, 6);
        for (int t : NO_TERM_OF_BUSY) {
            busy.refused(UNKNOWN, KEPT, "answer", t, 0, 0);
            busy.refused(UNKNOWN, KEPT, "answer", t, -1, 0);
            busy.refused(UNKNOWN, KEPT, "answer", t, 0, 6);
        }
        for (int k : new int[] {-1, LEAST}) {
            busy.refused(OUTSIDE, KEPT, "answer", 0, k, 0);
            busy.refused(OUTSIDE, KEPT, "answer", 3, k, 12);
        }
        for (int what : new int[] {-1, 6, 9, 13, LEAST, MOST, LEAST + 10}) {
            busy.refused(OUTSIDE, KEPT, "answer", 0, 0, what);
            busy.refused(OUTSIDE, KEPT, "answer", 0, 3, what);
            busy.refused(OUTSIDE, KEPT, "answer", 0, MOST, what);
        }
        for (int what : new int[] {0, 5, 10, 12}) {
            busy.refused(-9, KEPT, "answer", 0, 3, what);
            busy.refused(-9, KEPT, "answer", 0, MOST, what);
        }
    }

    /** UNKNOWN: SHEET; OUTSIDE: lane, n (0 .. 20), what (0 .. 4, 10 .. 12). */
    private static void dayByItsNumbers() {
        for (int sheet : NO_SHEET) {
            for (Twins twins : all) {
                twins.refused(UNKNOWN, 0, "day", sheet, 0, 0, 0, 0);
            }
            busy.refused(UNKNOWN, 0, "day", sheet, 3, -1, 21, 5);
        }
        for (int lane : NO_LANE) {
            busy.refused(OUTSIDE, 0, "day", 2, lane, 0, 3, 0);
            busy.refused(OUTSIDE, 0, "day", 3, lane, -1, 3, 0);
            bare.refused(OUTSIDE, 0, "day", 2, lane, 0, 0, 0);
        }
        for (int n : new int[] {-1, 21, LEAST, MOST}) {
            busy.refused(OUTSIDE, 0, "day", 2, 2, 0, n, 0);
            busy.refused(OUTSIDE, 0, "day", 2, 1, -1, n, 0);
            busy.refused(OUTSIDE, 0, "day", 3, 2, 0, n, 0);
            fresh.refused(OUTSIDE, 0, "day", 0, 0, 0, n, 0);
        }
        for (int what : new int[] {-1, 5, 9, 13, LEAST, MOST, LEAST + 10}) {
            busy.refused(OUTSIDE, 0, "day", 2, 2, 0, 3, what);
            busy.refused(OUTSIDE, 0, "day", 2, 1, 9, 3, what);
            busy.refused(OUTSIDE, 0, "day", 3, 2, 0, 3, what);
            bare.refused(OUTSIDE, 0, "day", 2, 2, 0, 0, what);
        }
    }

    /** FAULTS CAST, NULL, INDEX; STATE: there are no FUNCTIONS. */
    private static void dayByItsCells() {
        int[][] unlike = {{0, 1}, {0, 2}, {1, 0}, {1, 2}, {2, 0}, {2, 1}};
        for (int[] of : unlike) {
            faulty(busy, CAST, "day", of[0], of[1], 0, 0, 0);
            faulty(busy, CAST, "day", of[0], of[1], -1, 20, 1);
            faulty(bare, CAST, "day", of[0], of[1], 0, 1, 1);
        }
        for (int lane = 0; lane <= 2; lane++) {
            faulty(busy, NULL, "day", 3, lane, 0, 0, 0);
            faulty(busy, NULL, "day", 3, lane, -1, 20, 12);
            faulty(fresh, NULL, "day", lane, lane, 0, 0, 0);
        }
        int[][] beyond = {{-1, 0}, {7, 0}, {LEAST, 0}, {MOST, 0}, {-1, 1}, {-2, 1}, {0, 4}, {1, 3}, {2, 3}, {5, 1}, {6, 1},
            {0, 20}, {MOST, 1}, {MOST, 20}, {MOST - 1, 1}, {LEAST, 20}, {LEAST + 2, 3}};
        for (int[] cells : beyond) {
            faulty(busy, INDEX, "day", 2, 2, cells[0], cells[1], 0);
            faulty(busy, INDEX, "day", 2, 2, cells[0], cells[1], 1);
        }
        faulty(bare, INDEX, "day", 2, 2, 5, 0, 0);
        faulty(bare, INDEX, "day", 2, 2, 0, 3, 0);
        for (int what : new int[] {0, 1, 4, 10, 12}) {
            bare.refused(STATE, 0, "day", 2, 2, 0, 0, what);
            bare.refused(STATE, 0, "day", 2, 2, 4, 0, what);
            bare.refused(STATE, 0, "day", 2, 2, 0, 2, what);
        }
    }

    /** Pair by pair OUTSIDE: the second is not 0 .. 2, 10 .. 12, 20, the first is not as told with it. */
    private static void dayByItsPairs() {
        int[][] wrong = {{0, -1}, {0, 3}, {1, 9}, {1, 13}, {0, 19}, {0, 21}, {0, LEAST}, {0, MOST}, {1, LEAST + 10},
            {-1, 0}, {4, 0}, {-1, 1}, {4, 1}, {-1, 2}, {4, 2}, {LEAST, 0}, {MOST, 2}, {0, 10}, {10, 10}, {0, 11},
            {10, 11}, {0, 12}, {10, 12}, {LEAST, 10}, {MOST, 12}, {-1, 20}, {1, 20}, {LEAST, 20}, {MOST, 20}};
        for (int[] pair : wrong) {
            Twins first = new Twins(check, () -> withADay(pair[0], pair[1], 0, 20));
            Twins last = new Twins(check, () -> withADay(0, 20, pair[0], pair[1]));
            for (int what : new int[] {0, 1, 4, 12}) {
                first.refused(OUTSIDE, 0, "day", 2, 2, 0, 2, what);
                last.refused(OUTSIDE, 0, "day", 2, 2, 0, 2, what);
            }
            last.refused(3, 0, "day", 2, 2, 0, 1, 0);
        }
    }

    private static NeededAnswers withADay(int... cells) {
        NeededAnswers x = Made.busy();
        Check.lay(x, 2, 2, cells);
        return x;
    }

    /** UNKNOWN; OUTSIDE: c (0 .. 200, NONE); FULL. */
    private static void reading() {
        fresh.refused(UNKNOWN, KEPT, "reading", 0, 0);
        ready.refused(UNKNOWN, KEPT, "reading", 0, 0);
        for (int t : NO_TERM_OF_BUSY) {
            busy.refused(UNKNOWN, KEPT, "reading", t, 0);
            busy.refused(UNKNOWN, KEPT, "reading", t, 201);
        }
        full.refused(UNKNOWN, KEPT, "reading", 6, 0);
        full.refused(UNKNOWN, KEPT, "reading", -1, -1);
        for (int c : new int[] {-1, 201, -8, -10, LEAST, MOST}) {
            busy.refused(OUTSIDE, KEPT, "reading", 0, c);
            full.refused(OUTSIDE, KEPT, "reading", 5, c);
        }
        for (int c : new int[] {0, 200, -9}) {
            full.refused(FULL, KEPT, "reading", 0, c);
            full.refused(FULL, KEPT, "reading", 5, c);
        }
    }

    /** The last n READINGS (0 .. as many as there are). OUTSIDE. */
    private static void back() {
        for (Twins twins : all) {
            for (int n : new int[] {-1, 9, LEAST, MOST}) {
                twins.refused(OUTSIDE, KEPT, "back", n);
            }
        }
        fresh.refused(OUTSIDE, KEPT, "back", 1);
        ready.refused(OUTSIDE, KEPT, "back", 1);
        busy.refused(OUTSIDE, KEPT, "back", 4);
    }

    private static void kindsAndBranches() {
        for (String name : new String[] {"kinds", "branches"}) {
            fresh.refused(UNKNOWN, KEPT, name, 0);
            bare.refused(UNKNOWN, KEPT, name, 0);
            for (int f : NO_FUNCTION) {
                ready.refused(UNKNOWN, KEPT, name, f);
                full.refused(UNKNOWN, KEPT, name, f);
            }
        }
    }

    /** LOST: UNKNOWN; OUTSIDE. It names no FAULTS, so fault() stays. */
    private static void odds() {
        fresh.refused(LOST, KEPT, "odds", 0, 0, 0);
        ready.refused(LOST, KEPT, "odds", 0, 0, 0);
        for (int t : NO_TERM_OF_BUSY) {
            busy.refused(LOST, KEPT, "odds", t, 0, 0);
            busy.refused(LOST, KEPT, "odds", t, 4, 2);
        }
        for (int v : new int[] {-1, 4, LEAST, MOST}) {
            busy.refused(LOST, KEPT, "odds", 0, v, 0);
            busy.refused(LOST, KEPT, "odds", 3, v, 1);
        }
        for (int which : new int[] {-1, 2, LEAST, MOST}) {
            busy.refused(LOST, KEPT, "odds", 0, 0, which);
            busy.refused(LOST, KEPT, "odds", 3, 3, which);
        }
    }

    /** UNKNOWN; OUTSIDE: lane, n above 60; SIZE. */
    private static void sheet() {
        for (int k : NO_SHEET) {
            busy.refused(UNKNOWN, 0, "sheet", k, 0, 1);
            busy.refused(UNKNOWN, 0, "sheet", k, 3, 61);
            busy.refused(UNKNOWN, 0, "sheet", k, 0, -1);
            fresh.refused(UNKNOWN, 0, "sheet", k, 0, 0);
        }
        for (int lane : NO_LANE) {
            busy.refused(OUTSIDE, 0, "sheet", 0, lane, 1);
            busy.refused(OUTSIDE, 0, "sheet", 3, lane, 61);
            busy.refused(OUTSIDE, 0, "sheet", 3, lane, -1);
        }
        for (int k = 0; k <= 3; k++) {
            for (int n : new int[] {61, MOST}) {
                busy.refused(OUTSIDE, 0, "sheet", k, 0, n);
                fresh.refused(OUTSIDE, 0, "sheet", k, 2, n);
            }
            for (int n : new int[] {-1, LEAST}) {
                faulty(busy, SIZE, "sheet", k, 2, n);
                faulty(fresh, SIZE, "sheet", k, 0, n);
            }
        }
    }

    private static void lose() {
        for (int k : NO_SHEET) {
            fresh.refused(UNKNOWN, KEPT, "lose", k);
            busy.refused(UNKNOWN, KEPT, "lose", k);
        }
        busy.refused(0, KEPT, "lose", 3);
        fresh.refused(0, KEPT, "lose", 0);
    }

    /** UNKNOWN; NULL; INDEX. */
    private static void put() {
        for (int k : NO_SHEET) {
            busy.refused(UNKNOWN, 0, "put", k, 0, 5);
            busy.refused(UNKNOWN, 0, "put", k, -1, 5);
        }
        for (int i : new int[] {0, -1, 60, LEAST, MOST}) {
            faulty(busy, NULL, "put", 3, i, 5);
            faulty(fresh, NULL, "put", 0, i, 5);
        }
        int[] sizes = {10, 4, 6};
        for (int k = 0; k <= 2; k++) {
            for (int i : new int[] {-1, sizes[k], 59, 60, LEAST, MOST}) {
                faulty(busy, INDEX, "put", k, i, 5);
            }
        }
    }

    /** LOST: UNKNOWN, OUTSIDE: lane; FAULTS CAST (nothing is no CAST), NULL, INDEX. */
    private static void cell() {
        for (int k : NO_SHEET) {
            busy.refused(LOST, 0, "cell", k, 0, 0);
            busy.refused(LOST, 0, "cell", k, -1, 3);
        }
        for (int lane : NO_LANE) {
            busy.refused(LOST, 0, "cell", 0, 0, lane);
            busy.refused(LOST, 0, "cell", 3, 0, lane);
            busy.refused(LOST, 0, "cell", 1, -1, lane);
        }
        int[] sizes = {10, 4, 6};
        for (int k = 0; k <= 2; k++) {
            for (int lane = 0; lane <= 2; lane++) {
                busy.refused(LOST, NULL, "cell", 3, k, lane);
                busy.refused(LOST, NULL, "cell", 3, -1, lane);
                fresh.refused(LOST, NULL, "cell", k, 0, lane);
                if (lane != k) {
                    busy.refused(LOST, CAST, "cell", k, 0, lane);
                    busy.refused(LOST, CAST, "cell", k, -1, lane);
                }
            }
            for (int i : new int[] {-1, sizes[k], 59, 60, LEAST, MOST}) {
                busy.refused(LOST, INDEX, "cell", k, i, k);
            }
        }
    }

    /** UNKNOWN; FAULTS NULL (the first, the other), CAST (unlike LANES), INDEX: i, j, n below 0 or beyond. */
    private static void copy() {
        for (int k : NO_SHEET) {
            busy.refused(UNKNOWN, 0, "copy", k, 0, 0, 0, 0);
            busy.refused(UNKNOWN, 0, "copy", 0, 0, k, 0, 0);
            busy.refused(UNKNOWN, 0, "copy", 3, -1, k, -1, -1);
            busy.refused(UNKNOWN, 0, "copy", k, -1, 3, -1, -1);
        }
        for (int k = 0; k <= 2; k++) {
            faulty(busy, NULL, "copy", 3, 0, k, 0, 0);
            faulty(busy, NULL, "copy", k, 0, 3, 0, 0);
            faulty(busy, NULL, "copy", 3, -1, k, -1, -1);
            faulty(busy, NULL, "copy", k, -1, 3, -1, -1);
            for (int other = 0; other <= 2; other++) {
                if (other != k) {
                    faulty(busy, CAST, "copy", k, 0, other, 0, 1);
                    faulty(busy, CAST, "copy", k, 0, other, 0, 0);
                    faulty(busy, CAST, "copy", k, -1, other, -1, -1);
                }
            }
        }
        faulty(busy, NULL, "copy", 3, 0, 3, 0, 0);
        Twins ints = new Twins(check, RefusalsTest::withFourAndSixInts);
        int[][] beyond = {{-1, 0, 0}, {-1, 0, 1}, {0, -1, 0}, {0, -1, 1}, {0, 0, -1}, {4, 6, -1}, {1, 1, -1}, {5, 0, 0},
            {0, 7, 0}, {4, 0, 1}, {0, 6, 1}, {0, 0, 5}, {1, 0, 4}, {0, 3, 4}, {LEAST, 0, 1}, {MOST, 0, 1}, {0, LEAST, 1},
            {0, MOST, 1}, {0, 0, LEAST}, {0, 0, MOST}, {1, 1, MOST}, {MOST, MOST, MOST}, {LEAST, LEAST, LEAST},
            {MOST, 0, 0}, {0, MOST, 0}, {LEAST, 0, 0}, {0, LEAST, 0}};
        for (int[] of : beyond) {
            faulty(ints, INDEX, "copy", 1, of[0], 2, of[1], of[2]);
            faulty(ints, INDEX, "copy", 2, of[1], 1, of[0], of[2]);
        }
        faulty(ints, INDEX, "copy", 2, 0, 2, 1, 6);
        faulty(ints, INDEX, "copy", 2, 1, 2, 0, 6);
    }

    private static NeededAnswers withFourAndSixInts() {
        NeededAnswers x = Made.busy();
        Check.lay(x, 1, 2, 7, -8, 9, 300);
        return x;
    }

    private static void tellAndNote() {
        for (String name : new String[] {"tell", "note"}) {
            fresh.refused(UNKNOWN, KEPT, name, 0);
            bare.refused(UNKNOWN, KEPT, name, 0);
            for (int f : NO_FUNCTION) {
                busy.refused(UNKNOWN, KEPT, name, f);
            }
        }
    }

    /** UNKNOWN; OUTSIDE; CAST: it is none. */
    private static void as() {
        fresh.refused(UNKNOWN, 0, "as", 0, 0);
        for (int f : NO_FUNCTION) {
            busy.refused(UNKNOWN, 0, "as", f, 0);
            busy.refused(UNKNOWN, 0, "as", f, 3);
        }
        for (int kind : new int[] {-1, 3, LEAST, MOST}) {
            for (int f = 0; f <= 2; f++) {
                busy.refused(OUTSIDE, 0, "as", f, kind);
            }
        }
        faulty(busy, CAST, "as", 0, 1);
        faulty(busy, CAST, "as", 0, 2);
        faulty(busy, CAST, "as", 1, 2);
    }

    private static void many() {
        for (Twins twins : all) {
            for (int what : new int[] {-1, 4, LEAST, MOST}) {
                twins.refused(OUTSIDE, KEPT, "many", what);
            }
        }
    }
}
