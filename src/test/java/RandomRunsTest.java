import java.lang.reflect.Method;
import java.util.ArrayList;
import java.util.Comparator;
import java.util.List;
import java.util.Random;

/** All promises: runs of up to 512 calls by fixed seeds, each answer held against the model's. */
public final class RandomRunsTest {
    private static final int RUNS = 600, CALLS = 512;
    private static final int[] ODD = {-1, 3, 4, 5, 6, 13, 20, 21, 60, 61, -9, 200, 201, Integer.MIN_VALUE, Integer.MAX_VALUE};
    private static final Check check = new Check("RandomRunsTest");

    private final Random random;
    private final NeededAnswers x = new NeededAnswers();
    private final Model model = new Model();
    private final int run;
    private int calls;

    private RandomRunsTest(int run) {
        this.run = run;
        random = new Random(run);
    }

    public static void main(String[] args) {
        for (int run = 0; run < RUNS; run++) {
            new RandomRunsTest(run).go();
        }
        check.end();
    }

    private void go() {
        List<Method> methods = new ArrayList<>();
        for (Method method : NeededAnswers.class.getDeclaredMethods()) {
            if (java.lang.reflect.Modifier.isPublic(method.getModifiers())) methods.add(method);
        }
        methods.sort(Comparator.comparing(Method::getName));
        while (calls < CALLS) {
            int way = random.nextInt(100);
            if (way < 2 || model.many(0) == 0 && way < 40) layText();
            else if (way < 12) growTerms();
            else if (way < 15) layDay();
            else if (way < 20) readTrue();
            else callAny(methods.get(random.nextInt(methods.size())));
        }
    }

    private long call(String name, int... numbers) {
        if (calls++ >= CALLS) return 0;
        long due = Calls.call(model, name, numbers);
        check.is("run " + run + ", call " + calls + ", " + Calls.told(name, numbers), Calls.call(x, name, numbers), due);
        return due;
    }

    private void callAny(Method method) {
        int[] numbers = new int[method.getParameterCount()];
        for (int k = 0; k < numbers.length; k++) {
            int way = random.nextInt(40);
            numbers[k] = way == 0 ? ODD[random.nextInt(ODD.length)]
                : way < 4 ? 10 + random.nextInt(4) : way < 14 ? random.nextInt(7) : random.nextInt(3);
        }
        if (method.getName().equals("functions") && random.nextInt(4) > 0) return;
        call(method.getName(), numbers);
    }

    private String twig() {
        int way = random.nextInt(10);
        String ends = "012f";
        if (way < 3) return "" + random.nextInt(3);
        if (way < 5) return "o";
        if (way < 6) return "f";
        if (way < 8) return "c" + random.nextInt(3) + random.nextInt(3);
        return "b" + ends.charAt(random.nextInt(4)) + ends.charAt(random.nextInt(4)) + ends.charAt(random.nextInt(4));
    }

    private void layText() {
        StringBuilder text = new StringBuilder("n");
        int many = 1 + random.nextInt(3);
        for (int f = 0; f < many; f++) {
            text.append(';').append("pdw".charAt(random.nextInt(3))).append(1 + random.nextInt(9))
                .append(random.nextInt(2)).append(twig()).append(twig()).append(twig());
        }
        if (random.nextInt(5) == 0) text.setCharAt(random.nextInt(text.length()), "n;pdw0123ofcb".charAt(random.nextInt(13)));
        if (random.nextInt(8) == 0) text.setLength(random.nextInt(text.length()));
        int sheet = random.nextInt(4);
        int lane = random.nextInt(3);
        int from = random.nextInt(4);
        call("sheet", sheet, lane, from + text.length());
        for (int k = 0; k < text.length(); k++) call("put", sheet, from + k, text.charAt(k));
        call("functions", sheet, lane, from, text.length());
    }

    private void growTerms() {
        int terms = model.many(1);
        int way = random.nextInt(10);
        if (terms == 6 && way < 4) call("drop");
        else if (terms == 0 || way < 2) call("unknown", random.nextInt(3));
        else if (way < 3) call("constant", random.nextInt(3));
        else call("apply", random.nextInt(Math.max(1, model.many(0))), random.nextInt(terms), random.nextInt(terms));
    }

    private void layDay() {
        int pairs = random.nextInt(8);
        int sheet = random.nextInt(4);
        int lane = random.nextInt(3);
        call("sheet", sheet, lane, 2 * pairs);
        for (int k = 0; k < pairs; k++) {
            int way = random.nextInt(6);
            int first = way < 3 ? random.nextInt(4) : way < 5 ? 1 + random.nextInt(9) : 0;
            int second = way < 3 ? random.nextInt(3) : way < 5 ? 10 + random.nextInt(1 + model.many(0)) : 20;
            call("put", sheet, 2 * k, random.nextInt(60) == 0 ? 10 : first);
            call("put", sheet, 2 * k + 1, random.nextInt(60) == 0 ? 3 : second);
        }
        for (int what : new int[] {0, 1, 2, 3, 4, 10, 11, 12}) call("day", sheet, lane, 0, pairs, what);
    }

    /** A reading that is so, or nearly, as any other leaves no kinds. */
    private void readTrue() {
        if (model.many(1) == 0) return;
        if (model.many(3) > 3) call("back", model.many(3) - random.nextInt(3));
        int t = model.many(1) - 1;
        int least = (int) call("answers", t, 3);
        call("reading", t, random.nextInt(3) == 0 ? Math.max(0, least + random.nextInt(5) - 1) : least);
        for (int f = 0; f < model.many(0); f++) {
            call("kinds", f);
            call("branches", f);
        }
    }
}
