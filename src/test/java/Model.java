import java.util.ArrayList;
import java.util.HashMap;
import java.util.List;
import java.util.Map;
import java.util.TreeSet;
import java.util.regex.Matcher;
import java.util.regex.Pattern;

/** The document once more, in the plainest way and by other means than the class: texts by a pattern, terms lazily
 * by recursion, odds by throwing all there is. Used to check long runs of calls. */
final class Model {
    private static final Pattern TEXT =
        Pattern.compile("n(;[pdw][1-9][01]([012of]|c[012][012]|b[012f][012f][012f]){3}){1,3}");
    private static final Pattern FUNCTION = Pattern.compile(";([pdw])([1-9])([01])((?:[012of]|c..|b...){3})");
    private static final Pattern TWIG = Pattern.compile("[012of]|c..|b...");

    private static final class Fun {
        int kind;
        int price;
        int at;
        String[] twigs = new String[3];
    }

    private record Term(int sort, int number, int a, int b) { }

    /** What is bound (by unknown), what is picked (by term). */
    private record Stand(Map<Integer, Integer> bound, Map<Integer, Integer> picked, int steps) { }

    /** A value, a failure ("f"), an unknown one to be bound ("x"), a term to be picked ("t"). */
    private record Result(String is, int number) { }

    private record Answer(Stand stand, int value, TreeSet<Integer> looked) { }

    private List<Fun> funs = new ArrayList<>();
    private List<Term> terms = new ArrayList<>();
    private Map<Integer, Integer> given = new HashMap<>();
    private final List<int[]> readings = new ArrayList<>();
    private final int[][] sheets = new int[4][];
    private final int[] lanes = new int[4];
    private int trace;
    private int fault;
    private int rowLength;

    private static boolean in(int number, int low, int high) {
        return low <= number && number <= high;
    }

    private int fault(int number) {
        fault = number;
        return -10 - number;
    }

    private int rowFault(int sheet, int lane) {
        return sheets[sheet] == null ? 1 : lanes[sheet] != lane ? 2 : 0;
    }

    private static boolean cellsAreThere(int[] cells, int i, int n) {
        return i >= 0 && n >= 0 && (long) i + n <= cells.length;
    }

    int functions(int sheet, int lane, int i, int n) {
        fault = 0;
        if (!in(sheet, 0, 3)) return -1;
        if (!in(lane, 0, 2)) return -2;
        if (rowFault(sheet, lane) != 0) return fault(rowFault(sheet, lane));
        if (n < 0) return fault(4);
        if (!cellsAreThere(sheets[sheet], i, n)) return fault(3);
        StringBuilder text = new StringBuilder();
        for (int k = 0; k < n; k++) {
            int code = sheets[sheet][i + k];
            text.append(in(code, 0, 126) ? (char) code : '~');
            Matcher matcher = TEXT.matcher(text);
            if (!matcher.matches() && !matcher.hitEnd()) return -100 - k;
        }
        if (!TEXT.matcher(text).matches()) return -100 - n;
        funs = new ArrayList<>();
        Matcher each = FUNCTION.matcher(text);
        while (each.find()) {
            Fun fun = new Fun();
            fun.kind = "pdw".indexOf(each.group(1));
            fun.price = Integer.parseInt(each.group(2));
            fun.at = Integer.parseInt(each.group(3));
            Matcher twig = TWIG.matcher(each.group(4));
            for (int v = 0; v < 3 && twig.find(); v++) fun.twigs[v] = twig.group();
            funs.add(fun);
        }
        terms = new ArrayList<>();
        given = new HashMap<>();
        readings.clear();
        return funs.size();
    }

    private static int cost(Fun fun) {
        return fun.kind == 0 ? fun.price : fun.kind == 1 ? fun.price + 1 : fun.price + fun.price;
    }

    int ofFunction(int f, int what) {
        if (!in(f, 0, funs.size() - 1)) return -1;
        Fun fun = funs.get(f);
        if (what == 0) return fun.kind;
        if (what == 1) return fun.price;
        if (what == 2) return cost(fun);
        if (what == 3) return fun.at;
        if (!in(what, 10, 12)) return -2;
        String twig = fun.twigs[what - 10];
        switch (twig.charAt(0)) {
            case 'o': return 3;
            case 'f': return 4;
            case 'c': return 5 + 3 * (twig.charAt(1) - '0') + twig.charAt(2) - '0';
            case 'b': return 14;
            default: return twig.charAt(0) - '0';
        }
    }

    private int add(Term term) {
        if (terms.size() == 6) return -4;
        terms.add(term);
        return terms.size() - 1;
    }

    int constant(int v) {
        return funs.isEmpty() ? -3 : !in(v, 0, 2) ? -2 : add(new Term(0, v, -9, -9));
    }

    int unknown(int x) {
        return funs.isEmpty() ? -3 : !in(x, 0, 2) ? -2 : add(new Term(1, x, -9, -9));
    }

    private boolean isTerm(int t) {
        return in(t, 0, terms.size() - 1);
    }

    int apply(int f, int a, int b) {
        return in(f, 0, funs.size() - 1) && isTerm(a) && isTerm(b) ? add(new Term(2, f, a, b)) : -1;
    }

    int drop() {
        if (terms.isEmpty()) return -3;
        int gone = terms.size() - 1;
        terms.remove(gone);
        readings.removeIf(r -> r[0] == gone);
        return gone;
    }

    int ofTerm(int t, int what) {
        if (!isTerm(t)) return -1;
        Term term = terms.get(t);
        return what == 0 ? term.sort : what == 1 ? term.number : what == 2 ? term.a : what == 3 ? term.b : -2;
    }

    int price(int f, int v) {
        if (!in(f, 0, funs.size() - 1)) return -1;
        if (!in(v, 1, 9)) return -2;
        int was = funs.get(f).price;
        funs.get(f).price = v;
        return was;
    }

    int given(int x, int v) {
        if (funs.isEmpty()) return -3;
        if (!in(x, 0, 2) || !in(v, 0, 3)) return -2;
        int was = given.getOrDefault(x, 3);
        give(x, v);
        return was;
    }

    private void give(int x, int v) {
        if (v == 3) given.remove(x);
        else given.put(x, v);
    }

    private Result come(int t, Stand stand, TreeSet<Integer> looked) {
        looked.add(t);
        Term term = terms.get(t);
        if (term.sort == 0) return new Result("v", term.number);
        if (term.sort == 1) {
            Integer bound = stand.bound.get(term.number);
            return bound == null ? new Result("x", term.number) : new Result("v", bound);
        }
        Fun fun = funs.get(term.number);
        int[] arguments = {term.a, term.b};
        Result first = come(arguments[fun.at], stand, looked);
        if (!first.is.equals("v")) return first;
        String twig = fun.twigs[first.number];
        char sign = twig.charAt(0);
        if (sign == 'o') return come(arguments[1 - fun.at], stand, looked);
        if (sign == 'c') {
            Integer pick = stand.picked.get(t);
            return pick == null ? new Result("t", t) : new Result("v", twig.charAt(1 + pick) - '0');
        }
        if (sign == 'b') {
            Result second = come(arguments[1 - fun.at], stand, looked);
            if (!second.is.equals("v")) return second;
            sign = twig.charAt(1 + second.number);
        }
        return sign == 'f' ? new Result("f", -9) : new Result("v", sign - '0');
    }

    private static int set(Iterable<Integer> numbers) {
        int set = 0;
        for (int k : numbers) set |= 1 << k;
        return set;
    }

    private Stand first() {
        return new Stand(new HashMap<>(given), new HashMap<>(), 0);
    }

    int needs(int t, int what) {
        if (!isTerm(t)) return -1;
        if (!in(what, 0, 2)) return -2;
        TreeSet<Integer> looked = new TreeSet<>();
        Result result = come(t, first(), looked);
        return what == 0 ? "vxtf".indexOf(result.is) : what == 1 ? result.number : set(looked);
    }

    private List<Answer> all(int t) {
        List<Answer> found = new ArrayList<>();
        List<Stand> row = new ArrayList<>();
        row.add(first());
        for (int k = 0; k < row.size(); k++) {
            Stand stand = row.get(k);
            TreeSet<Integer> looked = new TreeSet<>();
            Result result = come(t, stand, looked);
            if (result.is.equals("v")) found.add(new Answer(stand, result.number, looked));
            int ways = result.is.equals("x") ? 3 : result.is.equals("t") ? 2 : 0;
            for (int way = 0; way < ways; way++) {
                Stand next = new Stand(new HashMap<>(stand.bound), new HashMap<>(stand.picked), stand.steps + 1);
                (ways == 3 ? next.bound : next.picked).put(result.number, way);
                row.add(next);
            }
        }
        rowLength = row.size();
        return found;
    }

    private int priceOf(Answer answer) {
        int sum = 0;
        for (int t : answer.looked) if (terms.get(t).sort == 2) sum += cost(funs.get(terms.get(t).number));
        return sum;
    }

    private int least(int t) {
        int least = -9;
        for (Answer answer : all(t)) least = least == -9 || priceOf(answer) < least ? priceOf(answer) : least;
        return least;
    }

    private int values(int t) {
        TreeSet<Integer> values = new TreeSet<>();
        for (Answer answer : all(t)) values.add(answer.value);
        return set(values);
    }

    int answers(int t, int what) {
        if (!isTerm(t)) return -1;
        if (!in(what, 0, 3)) return -2;
        int many = all(t).size();
        return what == 0 ? many : what == 1 ? values(t) : what == 2 ? rowLength : least(t);
    }

    int answer(int t, int k, int what) {
        if (!isTerm(t)) return -1;
        if (k < 0 || !in(what, 0, 5) && !in(what, 10, 12)) return -2;
        List<Answer> found = all(t);
        if (k >= found.size()) return -9;
        Answer answer = found.get(k);
        Map<Integer, Integer> picked = answer.stand.picked;
        if (what == 0) return answer.value;
        if (what == 1) return answer.stand.steps;
        if (what == 2) return priceOf(answer);
        if (what == 3) return set(answer.looked);
        if (what == 4) return set(picked.keySet());
        if (what == 5) return set(picked.keySet().stream().filter(t2 -> picked.get(t2) == 1).toList());
        return answer.stand.bound.getOrDefault(what - 10, 3);
    }

    int day(int sheet, int lane, int i, int n, int what) {
        fault = 0;
        if (!in(sheet, 0, 3)) return -1;
        if (!in(lane, 0, 2) || !in(n, 0, 20) || !in(what, 0, 4) && !in(what, 10, 12)) return -2;
        if (rowFault(sheet, lane) != 0) return fault(rowFault(sheet, lane));
        if (!cellsAreThere(sheets[sheet], i, 2 * n)) return fault(3);
        if (funs.isEmpty()) return -3;
        for (int k = 0; k < n; k++) {
            int v = sheets[sheet][i + 2 * k];
            int act = sheets[sheet][i + 2 * k + 1];
            if (!(in(act, 0, 2) && in(v, 0, 3) || in(act, 10, 12) && in(v, 1, 9) || act == 20 && v == 0)) return -2;
        }
        List<Term> keptTerms = new ArrayList<>(terms);
        Map<Integer, Integer> keptGiven = new HashMap<>(given);
        int[] keptPrices = funs.stream().mapToInt(fun -> fun.price).toArray();
        int result = live(sheet, i, n, what);
        terms = keptTerms;
        given = keptGiven;
        for (int f = 0; f < keptPrices.length; f++) funs.get(f).price = keptPrices[f];
        return result;
    }

    private int live(int sheet, int i, int n, int what) {
        for (int k = 0; k < n; k++) {
            int v = sheets[sheet][i + 2 * k];
            int act = sheets[sheet][i + 2 * k + 1];
            if (act == 20 && terms.isEmpty() || in(act, 10, 12) && act - 10 >= funs.size()) {
                return what == 1 ? k : -100 - k;
            }
            if (act == 20) terms.remove(terms.size() - 1);
            else if (act >= 10) funs.get(act - 10).price = v;
            else give(act, v);
        }
        if (what == 0) return terms.size();
        if (what == 1) return -9;
        if (what >= 10) return given.getOrDefault(what - 10, 3);
        int last = terms.size() - 1;
        return last < 0 ? -9 : what == 2 ? all(last).size() : what == 3 ? values(last) : least(last);
    }

    int reading(int t, int c) {
        if (!isTerm(t)) return -1;
        if (c != -9 && !in(c, 0, 200)) return -2;
        if (readings.size() == 8) return -4;
        readings.add(new int[] {t, c});
        return readings.size() - 1;
    }

    int back(int n) {
        if (!in(n, 0, readings.size())) return -2;
        for (int k = 0; k < n; k++) readings.remove(readings.size() - 1);
        return readings.size();
    }

    private boolean allAreSo() {
        return readings.stream().allMatch(r -> least(r[0]) == r[1]);
    }

    int kinds(int f) {
        if (!in(f, 0, funs.size() - 1)) return -1;
        Fun fun = funs.get(f);
        int was = fun.kind;
        TreeSet<Integer> so = new TreeSet<>();
        for (fun.kind = 0; fun.kind < 3; fun.kind++) if (allAreSo()) so.add(fun.kind);
        fun.kind = was;
        return set(so);
    }

    int branches(int f) {
        if (!in(f, 0, funs.size() - 1)) return -1;
        Fun fun = funs.get(f);
        int was = fun.at;
        TreeSet<Integer> so = new TreeSet<>();
        for (fun.at = 0; fun.at < 2; fun.at++) if (allAreSo()) so.add(fun.at);
        fun.at = was;
        return set(so);
    }

    long odds(int t, int v, int which) {
        if (!isTerm(t) || !in(v, 0, 3) || !in(which, 0, 1)) return Long.MIN_VALUE;
        long hits = 0;
        long throwsInAll = 0;
        for (int bound = 0; bound < 27; bound++) {
            Map<Integer, Integer> unknowns = new HashMap<>();
            for (int x = 0, rest = bound; x < 3; x++, rest /= 3) unknowns.put(x, rest % 3);
            if (!given.keySet().stream().allMatch(x -> given.get(x).equals(unknowns.get(x)))) continue;
            for (int picks = 0; picks < 1 << terms.size(); picks++) {
                Map<Integer, Integer> picked = new HashMap<>();
                for (int k = 0; k < terms.size(); k++) picked.put(k, picks >> k & 1);
                Result result = come(t, new Stand(unknowns, picked, 0), new TreeSet<>());
                throwsInAll++;
                if (result.is.equals("f") ? v == 3 : result.number == v) hits++;
            }
        }
        long shared = java.math.BigInteger.valueOf(hits).gcd(java.math.BigInteger.valueOf(throwsInAll)).longValue();
        return (which == 0 ? hits : throwsInAll) / shared;
    }

    int sheet(int k, int lane, int n) {
        fault = 0;
        if (!in(k, 0, 3)) return -1;
        if (!in(lane, 0, 2) || n > 60) return -2;
        if (n < 0) return fault(4);
        sheets[k] = new int[n];
        lanes[k] = lane;
        return 1;
    }

    int lose(int k) {
        if (!in(k, 0, 3)) return -1;
        int was = sheets[k] == null ? 0 : 1;
        sheets[k] = null;
        return was;
    }

    int put(int k, int i, int v) {
        fault = 0;
        if (!in(k, 0, 3)) return -1;
        if (sheets[k] == null) return fault(1);
        if (!in(i, 0, sheets[k].length - 1)) return fault(3);
        sheets[k][i] = lanes[k] == 0 ? (byte) v : lanes[k] == 1 ? (short) v : v;
        return 1;
    }

    long cell(int k, int i, int lane) {
        fault = 0;
        if (!in(k, 0, 3) || !in(lane, 0, 2)) return Long.MIN_VALUE;
        if (rowFault(k, lane) != 0) fault(rowFault(k, lane));
        else if (!in(i, 0, sheets[k].length - 1)) fault(3);
        return fault == 0 ? sheets[k][i] : Long.MIN_VALUE;
    }

    int copy(int k, int i, int other, int j, int n) {
        fault = 0;
        if (!in(k, 0, 3) || !in(other, 0, 3)) return -1;
        if (sheets[k] == null || sheets[other] == null) return fault(1);
        if (lanes[k] != lanes[other]) return fault(2);
        if (!cellsAreThere(sheets[k], i, n) || !cellsAreThere(sheets[other], j, n)) return fault(3);
        int[] were = sheets[k].clone();
        for (int c = 0; c < n; c++) sheets[other][j + c] = were[i + c];
        return n;
    }

    int tell(int f) {
        if (!in(f, 0, funs.size() - 1)) return -1;
        Fun fun = funs.get(f);
        for (char body : new String[] {"1", "21", "3211"}[fun.kind].toCharArray()) trace = 31 * trace + body - '0';
        return fun.kind == 0 ? fun.price : fun.kind == 1 ? fun.price + 100 : 2 * fun.price + 100;
    }

    int note(int f) {
        if (!in(f, 0, funs.size() - 1)) return -1;
        boolean isDouble = funs.get(f).kind == 2;
        trace = 31 * trace + (isDouble ? 5 : 4);
        return isDouble ? 30 : f;
    }

    int as(int f, int kind) {
        fault = 0;
        if (!in(f, 0, funs.size() - 1)) return -1;
        if (!in(kind, 0, 2)) return -2;
        return funs.get(f).kind < kind ? fault(2) : 1;
    }

    int trace() {
        return trace;
    }

    int fault() {
        return fault;
    }

    int many(int what) {
        return what == 0 ? funs.size() : what == 1 ? terms.size() : what == 2 ? given.size() : what == 3 ? readings.size() : -2;
    }
}
