import java.util.List;

/**
 * Every refusal that the document names, at the first numbers that are not as told on both sides, and far from them;
 * where several refusals fit at once, the first that is named; and that a refused call has changed nothing.
 */
public final class RefusalTest {
    private static final Checks C = new Checks("RefusalTest");
    private static final int UNKNOWN = -1, OUTSIDE = -2, STATE = -3, FULL = -4, NO = -5, NONE = -6;
    private static final long GONE_OUTSIDE = -1000000000000000002L;
    private static final int MIN = Integer.MIN_VALUE, MAX = Integer.MAX_VALUE;

    private static final States.State[] ALL = States.State.values();
    private static final States.State[] FAULTY = {States.State.FAULTY, States.State.FAULTY_AND_BARRED};
    private static final States.State[] BARRED = {States.State.BARRED};
    private static final States.State[] FULL_UP = {States.State.FULL};
    private static final States.State[] FRESH = {States.State.FRESH};

    private interface Call {
        long on(CradleHour x);
    }

    private interface NumberCall {
        long on(CradleHour x, int number);
    }

    public static void main(String[] args) {
        statesAreAsNamed();
        cradle();
        heir();
        say();
        judge();
        behind();
        stands();
        house();
        wrong();
        done();
        seekAndLooks();
        rowsOfDigits();
        mix();
        rises();
        like();
        ask();
        take();
        pass();
        passes();
        hour();
        image();
        restore();
        told();
        C.finish();
    }

    /** The call answers so in these states, twice, and an object made alike that had no such call tells the same. */
    private static void refused(States.State[] states, String name, long want, Call call) {
        for (States.State state : states) {
            String where = name + ", " + state;
            for (int view = 0; view < States.VIEW_COUNT; view++) {
                CradleHour x = States.made(state);
                C.due(where, call.on(x), want);
                C.due(where + ", again", call.on(x), want);
                List<Long> got = States.view(view, x);
                List<Long> due = States.view(view, States.made(state));
                for (int k = 0; k < due.size(); k++) {
                    C.due(where + ", view " + view + ", answer " + k, got.get(k), due.get(k));
                }
            }
        }
    }

    /** Every number below the least and above the most is refused: the nearest ones, and those that might wrap around. */
    private static void beyond(String name, int least, int most, long want, NumberCall call) {
        int[] numbers = {least - 1, most + 1, least - 2, most + 2, least - 256, most + 256, least - 65536, least + 65536,
            MIN, MIN + 1, MIN + least, MIN + most, MAX, MAX - 1};
        for (int k = 0; k < numbers.length; k++) {
            int number = numbers[k];
            refused(k < 2 ? ALL : FRESH, name.replace("#", "" + number), want, x -> call.on(x, number));
        }
    }

    private static void statesAreAsNamed() {
        CradleHour full = States.made(States.State.FULL);
        int[] most = {60, 31, 40, 60, 8};
        for (int what = 0; what < most.length; what++) {
            C.due("FULL: told(" + what + ")", full.told(what), most[what]);
        }
        C.due("FULL: fault()", full.fault(), NONE);
        C.due("FULL: judge(0)", full.judge(0), NONE);
        C.due("BUSY: judge(0)", States.made(States.State.BUSY).judge(0), NONE);
        C.due("BARRED: judge(0)", States.made(States.State.BARRED).judge(0), 1);
        C.due("FAULTY: fault()", States.made(States.State.FAULTY).fault(), 4);
        C.due("FAULTY_AND_BARRED: fault()", States.made(States.State.FAULTY_AND_BARRED).fault(), 5);
    }

    private static void cradle() {
        beyond("cradle(#, 1, 0, 0)", 0, 39, UNKNOWN, (x, n) -> x.cradle(n, 1, 0, 0));
        beyond("cradle(0, 9, 1, #)", -1, 5, UNKNOWN, (x, n) -> x.cradle(0, 9, 1, n));
        beyond("cradle(0, #, 1, 0)", 1, 9, OUTSIDE, (x, n) -> x.cradle(0, n, 1, 0));
        beyond("cradle(39, 5, #, -1)", 0, 1, OUTSIDE, (x, n) -> x.cradle(39, 5, n, -1));
        refused(ALL, "cradle(40, 0, 0, 0): the PLACE is first", UNKNOWN, x -> x.cradle(40, 0, 0, 0));
        refused(ALL, "cradle(-1, 1, 2, 0): the PLACE is first", UNKNOWN, x -> x.cradle(-1, 1, 2, 0));
        refused(ALL, "cradle(0, 10, 0, 6): the HEIR is first", UNKNOWN, x -> x.cradle(0, 10, 0, 6));
        refused(ALL, "cradle(0, 1, -1, -2): the HEIR is first", UNKNOWN, x -> x.cradle(0, 1, -1, -2));
        refused(ALL, "cradle(40, 10, 2, 6)", UNKNOWN, x -> x.cradle(40, 10, 2, 6));
        refused(ALL, "cradle(0, 0, 2, 0)", OUTSIDE, x -> x.cradle(0, 0, 2, 0));
    }

    private static void heir() {
        beyond("heir(#, 39, 9)", 0, 5, UNKNOWN, (x, n) -> x.heir(n, 39, 9));
        beyond("heir(0, #, 9)", 0, 39, UNKNOWN, (x, n) -> x.heir(0, n, 9));
        beyond("heir(0, 39, #)", 1, 9, OUTSIDE, (x, n) -> x.heir(0, 39, n));
        refused(ALL, "heir(6, 0, 0): the HEIR is first", UNKNOWN, x -> x.heir(6, 0, 0));
        refused(ALL, "heir(0, 40, 10): the PLACE is first", UNKNOWN, x -> x.heir(0, 40, 10));
        refused(ALL, "heir(-1, -1, 0)", UNKNOWN, x -> x.heir(-1, -1, 0));
    }

    private static void say() {
        beyond("say(#)", 33, 126, OUTSIDE, (x, n) -> x.say(n));
        for (int sign = 33; sign <= 126; sign++) {
            int s = sign;
            refused(FULL_UP, "say(" + s + ")", FULL, x -> x.say(s));
        }
    }

    private static void judge() {
        beyond("judge(#)", 0, 2, OUTSIDE, (x, n) -> x.judge(n));
        for (int what = 0; what <= 2; what++) {
            int w = what;
            refused(FAULTY, "judge(" + w + ")", NO, x -> x.judge(w));
        }
        refused(BARRED, "judge(2)", STATE, x -> x.judge(2));
        refused(BARRED, "judge(0): is not refused", 1, x -> x.judge(0));
        refused(BARRED, "judge(1): is not refused", 2, x -> x.judge(1));
    }

    /** What every call that looks behind the text answers where there is a FAULT, or an ACT that can not be. */
    private static void refusedByTheText(String name, int most, NumberCall call) {
        for (int what = 0; what <= most; what++) {
            int w = what;
            refused(FAULTY, name + w + ")", NO, x -> call.on(x, w));
            refused(BARRED, name + w + ")", STATE, x -> call.on(x, w));
        }
    }

    private static void behind() {
        beyond("behind(#, 0)", 0, 5, UNKNOWN, (x, n) -> x.behind(n, 0));
        beyond("behind(#, 2)", 0, 5, UNKNOWN, (x, n) -> x.behind(n, 2));
        beyond("behind(5, #)", 0, 2, OUTSIDE, (x, n) -> x.behind(5, n));
        refused(ALL, "behind(6, 3): the HEIR is first", UNKNOWN, x -> x.behind(6, 3));
        refused(ALL, "behind(-1, -1): the HEIR is first", UNKNOWN, x -> x.behind(-1, -1));
        refusedByTheText("behind(0, ", 2, (x, what) -> x.behind(0, what));
    }

    private static void stands() {
        beyond("stands(#, 0)", 0, 39, UNKNOWN, (x, n) -> x.stands(n, 0));
        beyond("stands(#, 2)", 0, 39, UNKNOWN, (x, n) -> x.stands(n, 2));
        beyond("stands(39, #)", 0, 2, OUTSIDE, (x, n) -> x.stands(39, n));
        refused(ALL, "stands(40, 3): the PLACE is first", UNKNOWN, x -> x.stands(40, 3));
        refused(ALL, "stands(-1, -1): the PLACE is first", UNKNOWN, x -> x.stands(-1, -1));
        refusedByTheText("stands(0, ", 2, (x, what) -> x.stands(0, what));
    }

    private static void house() {
        beyond("house(#)", 0, 3, OUTSIDE, (x, n) -> x.house(n));
        refusedByTheText("house(", 3, (x, what) -> x.house(what));
    }

    private static void wrong() {
        beyond("wrong(#)", 0, 1, OUTSIDE, (x, n) -> x.wrong(n));
        refusedByTheText("wrong(", 1, (x, what) -> x.wrong(what));
    }

    private static void done() {
        refused(FAULTY, "done()", NO, x -> x.done());
        refused(BARRED, "done()", STATE, x -> x.done());
    }

    private static void seekAndLooks() {
        beyond("seek(1, 1, #, 0)", 1, 9, GONE_OUTSIDE, (x, n) -> x.seek(1, 1, n, 0));
        beyond("seek(111111111, 111111111, #, 1)", 1, 9, GONE_OUTSIDE, (x, n) -> x.seek(111111111, 111111111, n, 1));
        beyond("seek(12, 21, 2, #)", 0, 1, GONE_OUTSIDE, (x, n) -> x.seek(12, 21, 2, n));
        beyond("looks(1, 1, #)", 1, 9, OUTSIDE, (x, n) -> x.looks(1, 1, n));
        beyond("looks(111111111, 111111111, #)", 1, 9, OUTSIDE, (x, n) -> x.looks(111111111, 111111111, n));
        beyond("seek(#, 1, 1, 0)", 1, 9, GONE_OUTSIDE, (x, n) -> x.seek(n, 1, 1, 0));
        beyond("seek(1, #, 1, 1)", 1, 9, GONE_OUTSIDE, (x, n) -> x.seek(1, n, 1, 1));
        beyond("looks(#, 1, 1)", 1, 9, OUTSIDE, (x, n) -> x.looks(n, 1, 1));
        beyond("looks(1, #, 1)", 1, 9, OUTSIDE, (x, n) -> x.looks(1, n, 1));
        // Rows of ten digits, as many as n says: it is n that is not as told.
        for (int part = 0; part <= 1; part++) {
            int p = part;
            refused(ALL, "seek, ten digits, " + p, GONE_OUTSIDE, x -> x.seek(1111111111, 2111111111, 10, p));
        }
        refused(ALL, "looks, ten digits", OUTSIDE, x -> x.looks(1111111111, 2111111111, 10));
    }

    /** A row that is refused as the odds and as the minutes, the other row being as told. */
    private static void notARow(int row, int n) {
        int ones = Integer.parseInt("1".repeat(n));
        String call = "(" + row + ", " + ones + ", " + n;
        String turned = "(" + ones + ", " + row + ", " + n;
        for (int part = 0; part <= 1; part++) {
            int p = part;
            refused(FRESH, "seek" + call + ", " + p + ")", GONE_OUTSIDE, x -> x.seek(row, ones, n, p));
            refused(FRESH, "seek" + turned + ", " + p + ")", GONE_OUTSIDE, x -> x.seek(ones, row, n, p));
        }
        refused(FRESH, "looks" + call + ")", OUTSIDE, x -> x.looks(row, ones, n));
        refused(FRESH, "looks" + turned + ")", OUTSIDE, x -> x.looks(ones, row, n));
    }

    private static void rowsOfDigits() {
        for (int n = 1; n <= 9; n++) {
            int ones = Integer.parseInt("1".repeat(n));
            int tens = 1;
            for (int at = 0; at < n; at++) {
                notARow(ones - tens, n);
                tens *= 10;
            }
            notARow(n == 9 ? 1111111111 : 10 * ones + 1, n);
            notARow(tens, n);
            notARow(ones / 10, n);
            notARow(0, n);
            notARow(-ones, n);
            notARow(-1, n);
            notARow(MIN, n);
            notARow(MAX, n);
        }
    }

    private static void mix() {
        beyond("mix(#, 0, 0, 0)", 2, 998, OUTSIDE, (x, n) -> x.mix(n, 0, 0, 0));
        beyond("mix(#, 1, 1, 1)", 2, 998, OUTSIDE, (x, n) -> x.mix(n, 1, 1, 1));
        for (int n = 1; n <= 999; n += 2) {
            int odd = n;
            C.due("mix(" + n + ", 0, 0, 0)", new CradleHour().mix(odd, 0, 0, 0), OUTSIDE);
            C.due("mix(" + n + ", 0, 0, 1)", new CradleHour().mix(odd, 0, 0, 1), OUTSIDE);
        }
        refused(ALL, "mix(0, 0, 0, 0)", OUTSIDE, x -> x.mix(0, 0, 0, 0));
        refused(ALL, "mix(1000, 0, 0, 0)", OUTSIDE, x -> x.mix(1000, 0, 0, 0));
        for (int what = 0; what <= 1; what++) {
            int w = what;
            beyond("mix(2, #, 1, " + w + ")", 0, 1, OUTSIDE, (x, n) -> x.mix(2, n, 1, w));
            beyond("mix(40, #, 1, " + w + ")", 0, 39, OUTSIDE, (x, n) -> x.mix(40, n, 1, w));
            beyond("mix(998, #, 1, " + w + ")", 0, 997, OUTSIDE, (x, n) -> x.mix(998, n, 1, w));
            refused(ALL, "mix(8, 0, -1, " + w + ")", OUTSIDE, x -> x.mix(8, 0, -1, w));
            refused(ALL, "mix(8, 0, 1000000000, " + w + ")", OUTSIDE, x -> x.mix(8, 0, 1000000000, w));
            refused(ALL, "mix(8, 0, MIN, " + w + ")", OUTSIDE, x -> x.mix(8, 0, MIN, w));
            refused(ALL, "mix(8, 0, MAX, " + w + ")", OUTSIDE, x -> x.mix(8, 0, MAX, w));
        }
        beyond("mix(8, 0, 0, #)", 0, 1, OUTSIDE, (x, n) -> x.mix(8, 0, 0, n));
    }

    private static void rises() {
        beyond("rises(#, 0)", 0, 39, UNKNOWN, (x, n) -> x.rises(n, 0));
        beyond("rises(#, 1)", 0, 39, UNKNOWN, (x, n) -> x.rises(n, 1));
        beyond("rises(39, #)", 0, 1, OUTSIDE, (x, n) -> x.rises(39, n));
        refused(ALL, "rises(40, 2): the PLACE is first", UNKNOWN, x -> x.rises(40, 2));
        refused(ALL, "rises(-1, -1): the PLACE is first", UNKNOWN, x -> x.rises(-1, -1));
    }

    private static void like() {
        beyond("like(#, 0, true)", 1, 9, OUTSIDE, (x, n) -> x.like(n, 0, true));
        beyond("like(#, 8, false)", 1, 9, OUTSIDE, (x, n) -> x.like(n, 8, false));
        beyond("like(9, #, true)", 0, 8, OUTSIDE, (x, n) -> x.like(9, n, true));
        beyond("like(1, #, false)", 0, 8, OUTSIDE, (x, n) -> x.like(1, n, false));
        for (int b = 1; b <= 9; b++) {
            for (int d = 0; d <= 8; d++) {
                int beat = b, span = d;
                refused(FULL_UP, "like(" + b + ", " + d + ", true)", FULL, x -> x.like(beat, span, true));
            }
        }
        refused(FULL_UP, "like(1, 0, false)", FULL, x -> x.like(1, 0, false));
    }

    private static void ask() {
        beyond("ask(#)", 0, 1, OUTSIDE, (x, n) -> x.ask(n));
        CradleHour nothingFits = new CradleHour();
        nothingFits.like(1, 8, false);
        C.due("ask(-1), nothing fits", nothingFits.ask(-1), OUTSIDE);
        C.due("ask(2), nothing fits", nothingFits.ask(2), OUTSIDE);
    }

    private static void take() {
        beyond("take(#, 0)", 1, 999, OUTSIDE, (x, n) -> x.take(n, 0));
        beyond("take(#, 1)", 1, 999, OUTSIDE, (x, n) -> x.take(n, 1));
        beyond("take(1, #)", 0, 1, OUTSIDE, (x, n) -> x.take(1, n));
        beyond("take(999, #)", 0, 1, OUTSIDE, (x, n) -> x.take(999, n));
    }

    private static void pass() {
        for (int part = 0; part <= 1; part++) {
            int p = part;
            beyond("pass(#, 0, " + p + ")", 1, 20, GONE_OUTSIDE, (x, n) -> x.pass(n, 0, p));
            for (int n = 1; n <= 20; n++) {
                int all = n;
                beyond("pass(" + n + ", #, " + p + ")", 0, n - 1, GONE_OUTSIDE, (x, r) -> x.pass(all, r, p));
            }
        }
        beyond("pass(1, 0, #)", 0, 1, GONE_OUTSIDE, (x, n) -> x.pass(1, 0, n));
        beyond("pass(20, 19, #)", 0, 1, GONE_OUTSIDE, (x, n) -> x.pass(20, 19, n));
    }

    private static void passes() {
        beyond("passes(#)", 1, 20, OUTSIDE, (x, n) -> x.passes(n));
    }

    private static void hour() {
        for (int what = 0; what <= 2; what++) {
            int w = what;
            beyond("hour(#, 1, " + w + ")", 0, 9999, OUTSIDE, (x, n) -> x.hour(n, 1, w));
            beyond("hour(0, #, " + w + ")", 1, 99, OUTSIDE, (x, n) -> x.hour(0, n, w));
        }
        beyond("hour(9999, 99, #)", 0, 2, OUTSIDE, (x, n) -> x.hour(9999, 99, n));
    }

    private static void image() {
        beyond("image(#)", 0, 1, OUTSIDE, (x, n) -> x.image(n));
    }

    private static void restore() {
        beyond("restore(#): also where none was kept", 0, 1, OUTSIDE, (x, n) -> x.restore(n));
        refused(FRESH, "restore(0), none is kept", STATE, x -> x.restore(0));
        refused(FRESH, "restore(1), none is kept", STATE, x -> x.restore(1));
        States.State[] onlyImage1 = {States.State.BUSY, States.State.FAULTY, States.State.BARRED};
        refused(onlyImage1, "restore(0), only 1 is kept", STATE, x -> x.restore(0));
    }

    private static boolean isTold(int what) {
        boolean single = what >= 0 && what <= 4;
        boolean ofHeir = what >= 10 && what <= 49 && what % 10 <= 5;
        boolean ofPlace = what >= 100 && what <= 399 && what % 100 <= 39;
        return single || ofHeir || ofPlace;
    }

    private static void told() {
        for (int what = -420; what <= 1420; what++) {
            int w = what;
            if (!isTold(what)) {
                refused(FRESH, "told(" + w + ")", OUTSIDE, x -> x.told(w));
            }
        }
        int[] nearest = {-1, 5, 9, 16, 26, 36, 46, 50, 99, 140, 240, 340, 400, 500, MIN, MIN + 4, MIN + 100, MAX};
        for (int what : nearest) {
            refused(ALL, "told(" + what + ")", OUTSIDE, x -> x.told(what));
        }
    }
}
