import java.lang.reflect.Method;
import java.lang.reflect.Modifier;
import java.util.ArrayList;
import java.util.Comparator;
import java.util.List;
import java.util.Set;

/** All promises: each call with every mix of numbers at and beyond the document's bounds, in a few states, held against
 * the model; and how the object stands when it has had them, too. */
public final class EdgeSweepTest {
    private static final int LEAST = Integer.MIN_VALUE, MOST = Integer.MAX_VALUE;
    /** By how many numbers a call takes: the more there are, the fewer each can be. */
    private static final int[][] EDGES = {{},
        {LEAST, -10, -9, -8, -1, 0, 1, 2, 3, 4, 5, 6, 8, 9, 10, 11, 12, 13, 60, 61, 200, 201, MOST},
        {LEAST, -10, -9, -8, -1, 0, 1, 2, 3, 4, 5, 6, 9, 10, 11, 12, 13, 200, 201, MOST},
        {LEAST, -1, 0, 1, 2, 3, 4, 5, 6, 9, 10, 12, 13, 60, 61, MOST},
        {LEAST, -1, 0, 1, 2, 3, 4, 5, 8, 10, MOST},
        {-1, 0, 1, 2, 3, 4, 20, 21, MOST}};
    private static final Set<String> CHANGING = Set.of("functions", "constant", "unknown", "apply", "drop", "price", "given",
        "reading", "back", "sheet", "lose", "put", "copy", "tell", "note");
    private static final int CALLS = 120;
    private static final Check check = new Check("EdgeSweepTest");

    private final int state;
    private NeededAnswers x;
    private Model model;
    private int calls;

    private EdgeSweepTest(int state) {
        this.state = state;
    }

    public static void main(String[] args) {
        for (int state = 0; state <= 4; state++) {
            new EdgeSweepTest(state).sweep();
        }
        check.end();
    }

    private void sweep() {
        List<Method> methods = new ArrayList<>();
        for (Method method : NeededAnswers.class.getDeclaredMethods()) {
            if (Modifier.isPublic(method.getModifiers())) methods.add(method);
        }
        methods.sort(Comparator.comparing(Method::getName));
        make();
        for (Method method : methods) {
            int[] edges = EDGES[method.getParameterCount()];
            int mixes = 1;
            for (int k = 0; k < method.getParameterCount(); k++) mixes *= edges.length;
            for (int mix = 0; mix < mixes; mix++) {
                int[] numbers = new int[method.getParameterCount()];
                for (int k = 0, rest = mix; k < numbers.length; k++, rest /= edges.length) numbers[k] = edges[rest % edges.length];
                ask(method.getName(), numbers);
            }
        }
        look();
    }

    private void ask(String name, int... numbers) {
        long due = Calls.call(model, name, numbers);
        check.is("state " + state + ", " + Calls.told(name, numbers), Calls.call(x, name, numbers), due);
        check.is("its fault()", x.fault(), model.fault());
        calls++;
        boolean changed = due >= 0 && CHANGING.contains(name);
        if (changed || calls >= CALLS) {
            look();
            make();
        }
    }

    private void look() {
        String unlike = Whole.firstUnlike(Whole.byBacks(x), Whole.byBacks(model));
        check.is("state " + state + " stands unlike: " + unlike, unlike.length(), 0);
    }

    private void make() {
        x = new NeededAnswers();
        model = new Model();
        calls = 0;
        if (state == 0) return;
        lay(0, 0, "n;p30c01of".chars().toArray());
        lay(1, 1, 3, 0, 9, 10, 0);
        lay(2, 2, 0, 20, 5, 11);
        if (state == 1) return;
        both("functions", 0, 0, 0, 10);
        if (state == 2) return;
        both("unknown", 0);
        both("apply", 0, 0, 0);
        both("reading", 1, 3);
        if (state == 3) return;
        both("constant", 1);
        both("apply", 0, 1, 2);
        both("unknown", 1);
        both("apply", 0, 4, 3);
        both("given", 0, 1);
        for (int k = 1; k < 8; k++) both("reading", k % 6, k % 6 == 2 ? 0 : 3);
    }

    private void lay(int sheet, int lane, int... cells) {
        both("sheet", sheet, lane, cells.length);
        for (int i = 0; i < cells.length; i++) both("put", sheet, i, cells[i]);
    }

    private void both(String name, int... numbers) {
        check.is("state " + state + ", made by " + Calls.told(name, numbers), Calls.call(x, name, numbers), Calls.call(model, name, numbers));
    }
}
