/** All that can be asked of an object (of the class, or of the model) as one text: two that stand alike give the same
 * text. Asking uses the object up, in some 300 calls: terms are dropped, or readings taken back, to see them all. */
final class Whole {
    private final Object x;
    private final StringBuilder told = new StringBuilder();

    private Whole(Object x) {
        this.x = x;
    }

    static String byDrops(Object x) {
        Whole whole = new Whole(x);
        whole.askWithoutChange();
        int terms = (int) Calls.call(x, "many", 1);
        for (int k = 0; k <= terms; k++) {
            whole.ask("drop");
            whole.ask("many", 3);
            whole.askKinds();
        }
        return whole.told.toString();
    }

    static String byBacks(Object x) {
        Whole whole = new Whole(x);
        whole.askWithoutChange();
        int readings = (int) Calls.call(x, "many", 3);
        for (int k = 0; k <= readings; k++) {
            whole.ask("back", 1);
            whole.askKinds();
        }
        return whole.told.toString();
    }

    private void askWithoutChange() {
        ask("fault");
        ask("trace");
        for (int what = 0; what <= 3; what++) ask("many", what);
        for (int k = 0; k <= 3; k++) askSheet(k);
        for (int f = 0; f < Calls.call(x, "many", 0); f++) {
            for (int what : new int[] {0, 1, 3, 10, 11, 12}) ask("ofFunction", f, what);
        }
        askKinds();
        for (int t = 0; t < Calls.call(x, "many", 1); t++) {
            for (int what = 0; what <= 3; what++) ask("ofTerm", t, what);
            for (int what = 0; what <= 3; what++) ask("answers", t, what);
        }
        for (int u = 0; u <= 2; u++) {
            int was = (int) ask("given", u, 3);
            ask("given", u, was);
        }
    }

    /** Cells of the lane that it has, until there is no more; with nothing, or no cells, the fault tells which. */
    private void askSheet(int k) {
        for (int lane = 0; lane <= 2; lane++) {
            for (int i = 0; ask("cell", k, i, lane) != Long.MIN_VALUE; i++) {
                told.append(i).append(' ');
            }
            ask("fault");
        }
    }

    private void askKinds() {
        for (int f = 0; f <= 2; f++) {
            ask("kinds", f);
            ask("branches", f);
        }
    }

    private long ask(String name, int... numbers) {
        long answer = Calls.call(x, name, numbers);
        told.append(Calls.told(name, numbers)).append('=').append(answer).append('\n');
        return answer;
    }

    /** The first line in which two texts are unlike; empty if there is none. */
    static String firstUnlike(String one, String other) {
        String[] these = one.split("\n");
        String[] those = other.split("\n");
        for (int k = 0; k < Math.max(these.length, those.length); k++) {
            String here = k < these.length ? these[k] : "nothing";
            String there = k < those.length ? those[k] : "nothing";
            if (!here.equals(there)) return here + " in place of " + there;
        }
        return "";
    }
}
