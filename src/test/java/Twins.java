import java.util.function.Supplier;

/** A call that is refused, or comes to a fault, changes nothing: its object stands as a twin does that never had the
 * call, but for fault(). */
final class Twins {
    /** What fault() tells after a call that names no FAULTS: what it told ahead of it. */
    static final int KEPT = -1;

    private final Check check;
    private final Supplier<NeededAnswers> maker;

    /** Sheet 3 of what the maker makes must have nothing, as the fault ahead of the call is come to there. */
    Twins(Check check, Supplier<NeededAnswers> maker) {
        this.check = check;
        this.maker = maker;
    }

    void refused(long due, int fault, String name, int... numbers) {
        for (int ahead : new int[] {1, 4}) {
            NeededAnswers called = made(ahead);
            check.is(Calls.told(name, numbers), Calls.call(called, name, numbers), due);
            check.is("fault() behind " + Calls.told(name, numbers), called.fault(), fault == KEPT ? ahead : fault);
            // The same fault for both, so that all the rest can be held side by side.
            comeTo(called, ahead);
            NeededAnswers twin = made(ahead);
            String unlike = ahead == 1 ? Whole.firstUnlike(Whole.byDrops(called), Whole.byDrops(twin))
                : Whole.firstUnlike(Whole.byBacks(called), Whole.byBacks(twin));
            check.is(Calls.told(name, numbers) + " changed " + unlike, unlike.length(), 0);
        }
    }

    private NeededAnswers made(int fault) {
        NeededAnswers x = maker.get();
        comeTo(x, fault);
        return x;
    }

    private static void comeTo(NeededAnswers x, int fault) {
        if (fault == 1) x.put(3, 0, 0);
        else x.sheet(3, 0, -1);
    }
}
