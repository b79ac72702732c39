/** Objects that tests begin with. */
final class Made {
    static final String THREE = "n;p30ob01fc12;d210c00f;w41bf20oc21";

    private Made() { }

    /** No functions; sheets of 4 bytes, 4 shorts and 4 ints, and one with nothing. */
    static NeededAnswers bare() {
        NeededAnswers x = new NeededAnswers();
        for (int lane = 0; lane <= 2; lane++) {
            Check.lay(x, lane, lane, 1, 2, 3, 4 + lane);
        }
        return x;
    }

    /** Three functions and no terms; sheets as busy has them. */
    static NeededAnswers ready() {
        NeededAnswers x = Check.with(THREE);
        x.lose(3);
        Check.lay(x, 0, 0, Check.codes("n;p30oc12f"));
        Check.lay(x, 1, 1, 7, -8, 9, 300);
        Check.lay(x, 2, 2, 1, 0, 5, 10, 0, 20);
        return x;
    }

    /** Four terms, one unknown given, three readings, a price told anew, a trace; a text on sheet 0 (10 bytes), 4 shorts
     * on sheet 1, a day on sheet 2 (6 ints), nothing on sheet 3. */
    static NeededAnswers busy() {
        NeededAnswers x = ready();
        x.unknown(0);
        x.constant(2);
        x.apply(0, 0, 1);
        x.apply(2, 0, 2);
        x.given(1, 2);
        x.price(1, 7);
        x.reading(2, 3);
        x.reading(0, 0);
        x.reading(3, 11);
        x.tell(2);
        return x;
    }

    /** Six terms, eight readings, all unknowns given. */
    static NeededAnswers full() {
        NeededAnswers x = busy();
        x.unknown(1);
        x.apply(1, 3, 4);
        x.given(0, 0);
        x.given(2, 1);
        for (int c = 0; c < 4; c++) {
            x.reading(5 - c, 3 + c);
        }
        x.reading(1, -9);
        return x;
    }

    /** Two functions, four terms; the last has nine answers, the least of them costs 6. */
    static NeededAnswers beforeADay() {
        NeededAnswers x = Check.with("n;p20c12fo;d30ooo");
        x.unknown(0);
        x.unknown(1);
        x.apply(0, 0, 1);
        x.apply(1, 2, 1);
        return x;
    }
}
