public final class NeededAnswers {
    public static final int UNKNOWN = -1, OUTSIDE = -2, STATE = -3, FULL = -4, NONE = -9;
    public static final long LOST = Long.MIN_VALUE;

    private static final int FAULT_NULL = 1, FAULT_CAST = 2, FAULT_INDEX = 3, FAULT_SIZE = 4;
    private static final int PLAIN = 0, DEAR = 1, DOUBLE = 2;
    private static final int VALUES = 3, UNKNOWNS = 3, KINDS = 3, LANES = 3, ARGUMENTS = 2;
    private static final int MOST_FUNCTIONS = 3, MOST_TERMS = 6, MOST_READINGS = 8;
    private static final int MOST_PRICE = 9, MOST_COST_READ = 200;
    private static final int SHEETS = 4, MOST_CELLS = 60, MOST_ACTS = 20;

    /** What an unknown one is bound to, or given, if it is nothing. */
    private static final int UNBOUND = 3;

    /** What a term is. */
    private static final int IS_VALUE = 0, IS_UNKNOWN = 1, IS_FUNCTION = 2;

    /** What a twig is, as ofFunction tells it; below TWIG_OTHER it is a value. */
    private static final int TWIG_OTHER = 3, TWIG_FAILURE = 4, TWIG_CHOICE = 5, TWIG_BRANCHES = 14;

    /** What a term comes to; below FAILS it is a value, the last two have a number added. */
    private static final int FAILS = 3, NEEDS_BOUND = 4, NEEDS_PICKED = 8;

    /** The acts of a day, by the second number of a pair. */
    private static final int ACT_PRICE = 10, ACT_DROP = 20;

    /** All throws of three unknowns (27) and six picks (64). */
    private static final int ALL_THROWS = 1728;

    private final Sheet[] sheets;
    private final World world;
    private final World imagined;
    private final Row row;
    private final TextReader reader;
    private final int[] readTerms;
    private final int[] readCosts;
    private int readingCount;
    private int traceNumber;
    private int latestFault;

    public NeededAnswers() {
        sheets = new Sheet[SHEETS];
        for (int k = 0; k < SHEETS; k++) {
            sheets[k] = new Sheet();
        }
        world = new World();
        imagined = new World();
        row = new Row();
        reader = new TextReader();
        readTerms = new int[MOST_READINGS];
        readCosts = new int[MOST_READINGS];
    }

    // ---- 1 functions, terms

    public int functions(int sheet, int lane, int i, int n) {
        latestFault = 0;
        Sheet page = sheetAt(sheet);
        if (page == null) {
            return UNKNOWN;
        }
        if (!isBelow(lane, LANES)) {
            return OUTSIDE;
        }
        int wrong = page.faultAs(lane);
        if (wrong == 0 && n < 0) {
            wrong = FAULT_SIZE;
        }
        if (wrong == 0 && !page.holds(i, n)) {
            wrong = FAULT_INDEX;
        }
        if (wrong != 0) {
            return faulted(wrong);
        }
        // The imagined world takes the text first, so that a faulty one leaves the world as it was.
        imagined.clear();
        int place = reader.readInto(imagined, page, i, n);
        if (place != NONE) {
            return -100 - place;
        }
        world.take(imagined);
        readingCount = 0;
        return world.functionCount;
    }

    public int ofFunction(int f, int what) {
        Function function = world.functionAt(f);
        if (function == null) {
            return UNKNOWN;
        }
        if (isBelow(what - 10, VALUES)) {
            return function.twigs[what - 10];
        }
        switch (what) {
            case 0: return function.kind;
            case 1: return function.price;
            case 2: return function.cost();
            case 3: return function.argument;
            default: return OUTSIDE;
        }
    }

    public int constant(int v) {
        return leaf(IS_VALUE, v, VALUES);
    }

    public int unknown(int x) {
        return leaf(IS_UNKNOWN, x, UNKNOWNS);
    }

    public int apply(int f, int a, int b) {
        if (world.functionAt(f) == null || world.termAt(a) == null || world.termAt(b) == null) {
            return UNKNOWN;
        }
        return world.add(IS_FUNCTION, f, a, b);
    }

    public int drop() {
        if (!world.takeLast()) {
            return STATE;
        }
        forgetReadings(world.termCount);
        return world.termCount;
    }

    public int ofTerm(int t, int what) {
        Term term = world.termAt(t);
        if (term == null) {
            return UNKNOWN;
        }
        switch (what) {
            case 0: return term.sort;
            case 1: return term.number;
            case 2: return term.left;
            case 3: return term.right;
            default: return OUTSIDE;
        }
    }

    public int price(int f, int v) {
        Function function = world.functionAt(f);
        if (function == null) {
            return UNKNOWN;
        }
        if (!isPrice(v)) {
            return OUTSIDE;
        }
        int was = function.price;
        function.price = v;
        return was;
    }

    // ---- 2 answers

    public int given(int x, int v) {
        if (world.functionCount == 0) {
            return STATE;
        }
        if (!isBelow(x, UNKNOWNS) || !isBelow(v, UNBOUND + 1)) {
            return OUTSIDE;
        }
        int was = world.givens[x];
        world.givens[x] = v;
        return was;
    }

    public int needs(int t, int what) {
        if (world.termAt(t) == null) {
            return UNKNOWN;
        }
        if (!isBelow(what, 3)) {
            return OUTSIDE;
        }
        row.lookAt(world, t, world.firstStand());
        if (what == 2) {
            return row.termLooked[t];
        }
        return what == 0 ? needOf(row.termOutcomes[t]) : neededOf(row.termOutcomes[t]);
    }

    public int answers(int t, int what) {
        if (world.termAt(t) == null) {
            return UNKNOWN;
        }
        if (!isBelow(what, 4)) {
            return OUTSIDE;
        }
        row.fill(world, t);
        switch (what) {
            case 0: return row.answerCount();
            case 1: return row.valueSet();
            case 2: return row.count;
            default: return row.leastPrice(world);
        }
    }

    public int answer(int t, int k, int what) {
        if (world.termAt(t) == null) {
            return UNKNOWN;
        }
        if (k < 0 || !isBelow(what, 6) && !isBelow(what - 10, UNKNOWNS)) {
            return OUTSIDE;
        }
        row.fill(world, t);
        int at = row.placeOfAnswer(k);
        if (at == NONE) {
            return NONE;
        }
        int stand = row.stands[at];
        switch (what) {
            case 0: return row.outcomes[at];
            case 1: return world.boundSince(stand) + Integer.bitCount(Stand.picked(stand));
            case 2: return world.costOf(row.looked[at]);
            case 3: return row.looked[at];
            case 4: return Stand.picked(stand);
            case 5: return Stand.second(stand);
            default: return Stand.bound(stand, what - 10);
        }
    }

    public int day(int sheet, int lane, int i, int n, int what) {
        latestFault = 0;
        Sheet page = sheetAt(sheet);
        if (page == null) {
            return UNKNOWN;
        }
        if (!isBelow(lane, LANES) || !isBelow(n, MOST_ACTS + 1)
                || !isBelow(what, 5) && !isBelow(what - 10, UNKNOWNS)) {
            return OUTSIDE;
        }
        int wrong = page.faultAs(lane);
        if (wrong == 0 && !page.holds(i, 2 * n)) {
            wrong = FAULT_INDEX;
        }
        if (wrong != 0) {
            return faulted(wrong);
        }
        if (world.functionCount == 0) {
            return STATE;
        }
        if (!areActs(page, i, n)) {
            return OUTSIDE;
        }
        imagined.take(world);
        int firstWrong = playActs(page, i, n);
        if (what == 1) {
            return firstWrong;
        }
        return firstWrong == NONE ? ofImagined(what) : -100 - firstWrong;
    }

    // ---- 3 what it costs

    public int reading(int t, int c) {
        if (world.termAt(t) == null) {
            return UNKNOWN;
        }
        if (c != NONE && !isBelow(c, MOST_COST_READ + 1)) {
            return OUTSIDE;
        }
        if (readingCount >= MOST_READINGS) {
            return FULL;
        }
        readTerms[readingCount] = t;
        readCosts[readingCount] = c;
        readingCount++;
        return readingCount - 1;
    }

    public int back(int n) {
        if (n < 0 || n > readingCount) {
            return OUTSIDE;
        }
        readingCount -= n;
        return readingCount;
    }

    public int kinds(int f) {
        if (world.functionAt(f) == null) {
            return UNKNOWN;
        }
        imagined.take(world);
        int set = 0;
        for (int kind = 0; kind < KINDS; kind++) {
            imagined.functions[f].kind = kind;
            if (readingsHold(imagined)) {
                set |= 1 << kind;
            }
        }
        return set;
    }

    public int branches(int f) {
        if (world.functionAt(f) == null) {
            return UNKNOWN;
        }
        imagined.take(world);
        int set = 0;
        for (int argument = 0; argument < ARGUMENTS; argument++) {
            imagined.functions[f].argument = argument;
            if (readingsHold(imagined)) {
                set |= 1 << argument;
            }
        }
        return set;
    }

    public long odds(int t, int v, int which) {
        if (world.termAt(t) == null || !isBelow(v, FAILS + 1) || !isBelow(which, 2)) {
            return LOST;
        }
        row.fill(world, t);
        int upper = row.throwsOf(world, v);
        int lower = ALL_THROWS;
        // All throws are 2 and 3 alone, six times at most, so no other divisor can be shared.
        for (int divisor = 2; divisor <= 3; divisor++) {
            for (int k = 0; k < 6 && upper % divisor == 0 && lower % divisor == 0; k++) {
                upper /= divisor;
                lower /= divisor;
            }
        }
        return which == 0 ? upper : lower;
    }

    // ---- 4 sheets, parts

    public int sheet(int k, int lane, int n) {
        latestFault = 0;
        Sheet page = sheetAt(k);
        if (page == null) {
            return UNKNOWN;
        }
        if (!isBelow(lane, LANES) || n > MOST_CELLS) {
            return OUTSIDE;
        }
        if (n < 0) {
            return faulted(FAULT_SIZE);
        }
        page.lay(lane, n);
        return 1;
    }

    public int lose(int k) {
        Sheet page = sheetAt(k);
        if (page == null) {
            return UNKNOWN;
        }
        return page.clear() ? 1 : 0;
    }

    public int put(int k, int i, int v) {
        latestFault = 0;
        Sheet page = sheetAt(k);
        if (page == null) {
            return UNKNOWN;
        }
        if (!page.isThere) {
            return faulted(FAULT_NULL);
        }
        if (!page.has(i)) {
            return faulted(FAULT_INDEX);
        }
        page.cells[i] = page.cut(v);
        return 1;
    }

    public long cell(int k, int i, int lane) {
        latestFault = 0;
        Sheet page = sheetAt(k);
        if (page == null || !isBelow(lane, LANES)) {
            return LOST;
        }
        int wrong = page.faultAs(lane);
        if (wrong == 0 && !page.has(i)) {
            wrong = FAULT_INDEX;
        }
        if (wrong != 0) {
            latestFault = wrong;
            return LOST;
        }
        return page.cells[i];
    }

    public int copy(int k, int i, int other, int j, int n) {
        latestFault = 0;
        Sheet from = sheetAt(k);
        Sheet to = sheetAt(other);
        if (from == null || to == null) {
            return UNKNOWN;
        }
        if (!from.isThere || !to.isThere) {
            return faulted(FAULT_NULL);
        }
        if (from.lane != to.lane) {
            return faulted(FAULT_CAST);
        }
        if (!from.holds(i, n) || !to.holds(j, n)) {
            return faulted(FAULT_INDEX);
        }
        System.arraycopy(from.cells, i, to.cells, j, n);
        return n;
    }

    public int tell(int f) {
        Function function = world.functionAt(f);
        if (function == null) {
            return UNKNOWN;
        }
        switch (function.kind) {
            case DOUBLE: return tellDouble(function);
            case DEAR: return tellDear(function);
            default: return tellPlain(function);
        }
    }

    public int note(int f) {
        Function function = world.functionAt(f);
        if (function == null) {
            return UNKNOWN;
        }
        if (function.kind == DOUBLE) {
            leaveTrace(5);
            return 30;
        }
        leaveTrace(4);
        return f;
    }

    public int as(int f, int kind) {
        latestFault = 0;
        Function function = world.functionAt(f);
        if (function == null) {
            return UNKNOWN;
        }
        if (!isBelow(kind, KINDS)) {
            return OUTSIDE;
        }
        // Each kind is also one of every kind numbered below it.
        return kind <= function.kind ? 1 : faulted(FAULT_CAST);
    }

    public int trace() {
        return traceNumber;
    }

    public int fault() {
        return latestFault;
    }

    public int many(int what) {
        switch (what) {
            case 0: return world.functionCount;
            case 1: return world.termCount;
            case 2: return world.givenCount();
            case 3: return readingCount;
            default: return OUTSIDE;
        }
    }

    // ---- what the calls above share

    private static boolean isBelow(int number, int bound) {
        return number >= 0 && number < bound;
    }

    private static boolean isPrice(int v) {
        return v >= 1 && v <= MOST_PRICE;
    }

    private Sheet sheetAt(int k) {
        return isBelow(k, SHEETS) ? sheets[k] : null;
    }

    private int faulted(int number) {
        latestFault = number;
        return -10 - number;
    }

    private int leaf(int sort, int number, int bound) {
        if (world.functionCount == 0) {
            return STATE;
        }
        if (!isBelow(number, bound)) {
            return OUTSIDE;
        }
        return world.add(sort, number, NONE, NONE);
    }

    private void forgetReadings(int t) {
        int kept = 0;
        for (int k = 0; k < readingCount; k++) {
            if (readTerms[k] != t) {
                readTerms[kept] = readTerms[k];
                readCosts[kept] = readCosts[k];
                kept++;
            }
        }
        readingCount = kept;
    }

    private boolean readingsHold(World of) {
        for (int k = 0; k < readingCount; k++) {
            row.fill(of, readTerms[k]);
            if (row.leastPrice(of) != readCosts[k]) {
                return false;
            }
        }
        return true;
    }

    private static int needOf(int outcome) {
        if (outcome < FAILS) {
            return 0;
        }
        if (outcome == FAILS) {
            return 3;
        }
        return outcome < NEEDS_PICKED ? 1 : 2;
    }

    private static int neededOf(int outcome) {
        if (outcome < FAILS) {
            return outcome;
        }
        if (outcome == FAILS) {
            return NONE;
        }
        return outcome < NEEDS_PICKED ? outcome - NEEDS_BOUND : outcome - NEEDS_PICKED;
    }

    private static boolean areActs(Sheet page, int from, int n) {
        for (int k = 0; k < n; k++) {
            if (!isAct(page.cells[from + 2 * k], page.cells[from + 2 * k + 1])) {
                return false;
            }
        }
        return true;
    }

    private static boolean isAct(int first, int second) {
        if (isBelow(second, UNKNOWNS)) {
            return isBelow(first, UNBOUND + 1);
        }
        if (isBelow(second - ACT_PRICE, MOST_FUNCTIONS)) {
            return isPrice(first);
        }
        return second == ACT_DROP && first == 0;
    }

    private int playActs(Sheet page, int from, int n) {
        for (int k = 0; k < n; k++) {
            if (!imagined.play(page.cells[from + 2 * k], page.cells[from + 2 * k + 1])) {
                return k;
            }
        }
        return NONE;
    }

    private int ofImagined(int what) {
        if (what == 0) {
            return imagined.termCount;
        }
        if (isBelow(what - 10, UNKNOWNS)) {
            return imagined.givens[what - 10];
        }
        if (imagined.termCount == 0) {
            return NONE;
        }
        row.fill(imagined, imagined.termCount - 1);
        switch (what) {
            case 2: return row.answerCount();
            case 3: return row.valueSet();
            default: return row.leastPrice(imagined);
        }
    }

    private int tellPlain(Function function) {
        leaveTrace(1);
        return function.price;
    }

    private int tellDear(Function function) {
        leaveTrace(2);
        return tellPlain(function) + 100;
    }

    private int tellDouble(Function function) {
        leaveTrace(3);
        return tellDear(function) + tellPlain(function);
    }

    private void leaveTrace(int body) {
        traceNumber = 31 * traceNumber + body;
    }

    /** A row of numbers of a lane, or nothing; its cells are made once and used again. */
    private static final class Sheet {
        boolean isThere;
        int lane;
        int size;
        final int[] cells = new int[MOST_CELLS];

        void lay(int newLane, int n) {
            isThere = true;
            lane = newLane;
            size = n;
            for (int i = 0; i < MOST_CELLS; i++) {
                cells[i] = 0;
            }
        }

        boolean clear() {
            boolean was = isThere;
            isThere = false;
            size = 0;
            return was;
        }

        /** The fault of taking it as a row of a lane: 0 if there is none. */
        int faultAs(int wanted) {
            if (!isThere) {
                return FAULT_NULL;
            }
            return lane == wanted ? 0 : FAULT_CAST;
        }

        boolean has(int i) {
            return i >= 0 && i < size;
        }

        boolean holds(int from, int n) {
            return from >= 0 && from <= size && n >= 0 && n <= size - from;
        }

        int cut(int v) {
            switch (lane) {
                case 0: return (byte) v;
                case 1: return (short) v;
                default: return v;
            }
        }
    }

    /** One function: its kind, its price and its tree. */
    private static final class Function {
        int kind;
        int price;
        int argument;
        final int[] twigs = new int[VALUES];
        /** Of twig v that branches, what it comes to by the other argument w: at 3 v + w. */
        final int[] parts = new int[VALUES * VALUES];

        int cost() {
            switch (kind) {
                case DOUBLE: return 2 * price;
                case DEAR: return price + 1;
                default: return price;
            }
        }

        void take(Function other) {
            kind = other.kind;
            price = other.price;
            argument = other.argument;
            System.arraycopy(other.twigs, 0, twigs, 0, VALUES);
            System.arraycopy(other.parts, 0, parts, 0, VALUES * VALUES);
        }
    }

    /** One term: a value, an unknown one, or a function over two terms that came before it. */
    private static final class Term {
        int sort;
        int number;
        int left;
        int right;

        void become(int newSort, int newNumber, int newLeft, int newRight) {
            sort = newSort;
            number = newNumber;
            left = newLeft;
            right = newRight;
        }
    }

    /** Functions, terms over them, and what is given: all that answers hang on. */
    private static final class World {
        final Function[] functions = new Function[MOST_FUNCTIONS];
        int functionCount;
        final Term[] terms = new Term[MOST_TERMS];
        int termCount;
        final int[] givens = new int[UNKNOWNS];

        World() {
            for (int f = 0; f < MOST_FUNCTIONS; f++) {
                functions[f] = new Function();
            }
            for (int t = 0; t < MOST_TERMS; t++) {
                terms[t] = new Term();
            }
            for (int x = 0; x < UNKNOWNS; x++) {
                givens[x] = UNBOUND;
            }
        }

        void clear() {
            functionCount = 0;
            termCount = 0;
            for (int x = 0; x < UNKNOWNS; x++) {
                givens[x] = UNBOUND;
            }
        }

        void take(World other) {
            functionCount = other.functionCount;
            for (int f = 0; f < functionCount; f++) {
                functions[f].take(other.functions[f]);
            }
            termCount = other.termCount;
            for (int t = 0; t < termCount; t++) {
                Term term = other.terms[t];
                terms[t].become(term.sort, term.number, term.left, term.right);
            }
            System.arraycopy(other.givens, 0, givens, 0, UNKNOWNS);
        }

        Function functionAt(int f) {
            return isBelow(f, functionCount) ? functions[f] : null;
        }

        Term termAt(int t) {
            return isBelow(t, termCount) ? terms[t] : null;
        }

        int add(int sort, int number, int left, int right) {
            if (termCount >= MOST_TERMS) {
                return FULL;
            }
            terms[termCount].become(sort, number, left, right);
            termCount++;
            return termCount - 1;
        }

        boolean takeLast() {
            if (termCount == 0) {
                return false;
            }
            termCount--;
            return true;
        }

        /** Does one act of a day; false if it can't be. */
        boolean play(int first, int second) {
            if (second == ACT_DROP) {
                return takeLast();
            }
            if (isBelow(second, UNKNOWNS)) {
                givens[second] = first;
                return true;
            }
            Function function = functionAt(second - ACT_PRICE);
            if (function == null) {
                return false;
            }
            function.price = first;
            return true;
        }

        int givenCount() {
            int count = 0;
            for (int x = 0; x < UNKNOWNS; x++) {
                if (givens[x] != UNBOUND) {
                    count++;
                }
            }
            return count;
        }

        int firstStand() {
            int stand = Stand.EMPTY;
            for (int x = 0; x < UNKNOWNS; x++) {
                stand = Stand.bind(stand, x, givens[x]);
            }
            return stand;
        }

        /** How many unknown ones a stand binds beside those that are given. */
        int boundSince(int stand) {
            int count = 0;
            for (int x = 0; x < UNKNOWNS; x++) {
                if (givens[x] == UNBOUND && Stand.bound(stand, x) != UNBOUND) {
                    count++;
                }
            }
            return count;
        }

        int costOf(int lookedAt) {
            int sum = 0;
            for (int t = 0; t < termCount; t++) {
                if ((lookedAt >> t & 1) != 0 && terms[t].sort == IS_FUNCTION) {
                    Function function = functionAt(terms[t].number);
                    sum += function == null ? 0 : function.cost();
                }
            }
            return sum;
        }
    }

    /**
     * A stand in one int, so that a row of them needs no objects: two bits for each unknown one,
     * then a bit for each term that has picked, then one for each that has picked its second one.
     */
    private static final class Stand {
        static final int PICKED_FROM = 2 * UNKNOWNS;
        static final int SECOND_FROM = PICKED_FROM + MOST_TERMS;
        static final int EMPTY = (1 << PICKED_FROM) - 1;
        static final int TERM_BITS = (1 << MOST_TERMS) - 1;

        static int bound(int stand, int x) {
            return stand >> 2 * x & 3;
        }

        static int bind(int stand, int x, int v) {
            return stand & ~(3 << 2 * x) | v << 2 * x;
        }

        static int picked(int stand) {
            return stand >> PICKED_FROM & TERM_BITS;
        }

        static int second(int stand) {
            return stand >> SECOND_FROM & TERM_BITS;
        }

        static int pick(int stand, int t, int which) {
            return stand | 1 << PICKED_FROM + t | which << SECOND_FROM + t;
        }
    }

    /** The row of stands of a term, with what the term comes to in each. */
    private static final class Row {
        /**
         * Three unknowns leave three terms that may pick; bound first, they make
         * 1 + 3 + 9 + 27 + 54 + 108 + 216 stands, and fewer unknowns or another order make fewer.
         */
        static final int MOST_STANDS = 418;

        int count;
        final int[] stands = new int[MOST_STANDS];
        final int[] outcomes = new int[MOST_STANDS];
        final int[] looked = new int[MOST_STANDS];
        /** Of each term in the stand that was looked at latest. */
        final int[] termOutcomes = new int[MOST_TERMS];
        final int[] termLooked = new int[MOST_TERMS];

        void fill(World world, int t) {
            count = 0;
            if (world.termAt(t) == null) {
                return;
            }
            join(world.firstStand());
            for (int at = 0; at < count && at < MOST_STANDS; at++) {
                lookAt(world, t, stands[at]);
                outcomes[at] = termOutcomes[t];
                looked[at] = termLooked[t];
                goOn(stands[at], termOutcomes[t]);
            }
        }

        private void join(int stand) {
            if (count < MOST_STANDS) {
                stands[count] = stand;
                count++;
            }
        }

        private void goOn(int stand, int outcome) {
            if (outcome >= NEEDS_PICKED) {
                join(Stand.pick(stand, outcome - NEEDS_PICKED, 0));
                join(Stand.pick(stand, outcome - NEEDS_PICKED, 1));
            } else if (outcome >= NEEDS_BOUND) {
                for (int v = 0; v < VALUES; v++) {
                    join(Stand.bind(stand, outcome - NEEDS_BOUND, v));
                }
            }
        }

        /** Terms hang on earlier ones alone, so one way up from the first serves them all. */
        void lookAt(World world, int last, int stand) {
            for (int t = 0; t <= last && t < world.termCount; t++) {
                Term term = world.terms[t];
                termLooked[t] = 1 << t;
                switch (term.sort) {
                    case IS_VALUE:
                        termOutcomes[t] = term.number;
                        break;
                    case IS_UNKNOWN:
                        int bound = Stand.bound(stand, term.number);
                        termOutcomes[t] = bound == UNBOUND ? NEEDS_BOUND + term.number : bound;
                        break;
                    default:
                        termOutcomes[t] = outcomeOfFunction(world, t, stand);
                }
            }
        }

        private int outcomeOfFunction(World world, int t, int stand) {
            Term term = world.terms[t];
            Function function = world.functionAt(term.number);
            if (function == null || !isBelow(term.left, t) || !isBelow(term.right, t)) {
                return FAILS;
            }
            int first = function.argument == 0 ? term.left : term.right;
            int other = function.argument == 0 ? term.right : term.left;
            termLooked[t] |= termLooked[first];
            int v = termOutcomes[first];
            if (v >= FAILS) {
                return v;
            }
            int twig = function.twigs[v];
            if (twig < TWIG_OTHER) {
                return twig;
            }
            if (twig == TWIG_FAILURE) {
                return FAILS;
            }
            if (twig >= TWIG_CHOICE && twig < TWIG_BRANCHES) {
                return outcomeOfChoice(twig - TWIG_CHOICE, t, stand);
            }
            termLooked[t] |= termLooked[other];
            int w = termOutcomes[other];
            if (twig == TWIG_OTHER || w >= FAILS) {
                return w;
            }
            return function.parts[VALUES * v + w];
        }

        private static int outcomeOfChoice(int choice, int t, int stand) {
            if ((Stand.picked(stand) >> t & 1) == 0) {
                return NEEDS_PICKED + t;
            }
            boolean isSecond = (Stand.second(stand) >> t & 1) != 0;
            return isSecond ? choice % VALUES : choice / VALUES;
        }

        int answerCount() {
            int found = 0;
            for (int at = 0; at < count; at++) {
                if (outcomes[at] < FAILS) {
                    found++;
                }
            }
            return found;
        }

        int placeOfAnswer(int k) {
            int before = 0;
            for (int at = 0; at < count; at++) {
                if (outcomes[at] < FAILS) {
                    if (before == k) {
                        return at;
                    }
                    before++;
                }
            }
            return NONE;
        }

        int valueSet() {
            int set = 0;
            for (int at = 0; at < count; at++) {
                if (outcomes[at] < FAILS) {
                    set |= 1 << outcomes[at];
                }
            }
            return set;
        }

        int leastPrice(World world) {
            int least = NONE;
            for (int at = 0; at < count; at++) {
                if (outcomes[at] < FAILS) {
                    int cost = world.costOf(looked[at]);
                    least = least == NONE ? cost : Math.min(least, cost);
                }
            }
            return least;
        }

        /** Of all throws, how many come to an outcome (a value, or FAILS). */
        int throwsOf(World world, int outcome) {
            int sum = 0;
            for (int at = 0; at < count; at++) {
                if (outcomes[at] == outcome) {
                    sum += throwsIn(world, stands[at]);
                }
            }
            return sum;
        }

        /** How many throws agree with a stand: each step to it leaves a third, or half of them. */
        private static int throwsIn(World world, int stand) {
            int left = ALL_THROWS >> Integer.bitCount(Stand.picked(stand));
            int steps = world.boundSince(stand);
            for (int k = 0; k < steps && k < UNKNOWNS; k++) {
                left /= 3;
            }
            return left;
        }
    }

    /** Reads functions from a text, code by code; where it stops is the first fault. */
    private static final class TextReader {
        private static final int WRONG = -1;
        private Sheet page;
        private int start;
        private int length;
        private int at;

        /** The place of the first fault, or NONE: then the world has the functions. */
        int readInto(World world, Sheet text, int from, int n) {
            page = text;
            start = from;
            length = n;
            at = 0;
            if (!passes('n')) {
                return at;
            }
            for (int f = 0; f < MOST_FUNCTIONS && (f == 0 || at < length); f++) {
                if (!passes(';') || !readFunction(world.functions[f])) {
                    return at;
                }
                world.functionCount = f + 1;
            }
            return at < length ? at : NONE;
        }

        private boolean readFunction(Function function) {
            int kind = readKind();
            if (kind == WRONG) {
                return false;
            }
            int price = readDigit(1, MOST_PRICE);
            if (price == WRONG) {
                return false;
            }
            int argument = readDigit(0, ARGUMENTS - 1);
            if (argument == WRONG) {
                return false;
            }
            function.kind = kind;
            function.price = price;
            function.argument = argument;
            for (int v = 0; v < VALUES; v++) {
                if (!readTwig(function, v)) {
                    return false;
                }
            }
            return true;
        }

        private int readKind() {
            if (passes('p')) {
                return PLAIN;
            }
            if (passes('d')) {
                return DEAR;
            }
            return passes('w') ? DOUBLE : WRONG;
        }

        private boolean readTwig(Function function, int v) {
            int twig;
            if (passes('o')) {
                twig = TWIG_OTHER;
            } else if (passes('c')) {
                twig = readChoice();
            } else if (passes('b')) {
                twig = readParts(function, v) ? TWIG_BRANCHES : WRONG;
            } else {
                twig = readEnd();
                twig = twig == FAILS ? TWIG_FAILURE : twig;
            }
            function.twigs[v] = twig;
            return twig != WRONG;
        }

        private int readChoice() {
            int first = readDigit(0, VALUES - 1);
            int second = first == WRONG ? WRONG : readDigit(0, VALUES - 1);
            return second == WRONG ? WRONG : TWIG_CHOICE + VALUES * first + second;
        }

        private boolean readParts(Function function, int v) {
            for (int w = 0; w < VALUES; w++) {
                int end = readEnd();
                if (end == WRONG) {
                    return false;
                }
                function.parts[VALUES * v + w] = end;
            }
            return true;
        }

        /** A value, or a failure, as what a term comes to. */
        private int readEnd() {
            return passes('f') ? FAILS : readDigit(0, VALUES - 1);
        }

        private int readDigit(int low, int high) {
            for (int digit = low; digit <= high; digit++) {
                if (passes('0' + digit)) {
                    return digit;
                }
            }
            return WRONG;
        }

        /** Looks at the cell itself: Sheet.has would be a ninth call, deeper than calls may go. */
        private boolean passes(int code) {
            int place = start + at;
            if (page == null || at >= length || place < 0 || place >= page.size || page.cells[place] != code) {
                return false;
            }
            at++;
            return true;
        }
    }
}
