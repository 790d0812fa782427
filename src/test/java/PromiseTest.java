/** Each promise of the document: ordinary inputs, the edges it names, wrong inputs, and that refusals change nothing. */
public final class PromiseTest {
    private static final Checks C = new Checks("PromiseTest");
    private static final int UNKNOWN = -1, OUTSIDE = -2, STATE = -3, FULL = -4, NO = -5, NONE = -6;
    private static final long GONE_OUTSIDE = -1000000000000000002L;
    private static final int[] FAR = {Integer.MIN_VALUE, -1000, -7, 1000, Integer.MAX_VALUE};

    public static void main(String[] args) {
        promise1New();
        promise2Cradle();
        promise3Heir();
        promise4Say();
        promise5Wipe();
        promise6Fault();
        promise7Judge();
        promise7Reasons();
        promise8Behind();
        promise9Stands();
        promise10House();
        promise11Wrong();
        promise12Done();
        promise13Seek();
        promise14Looks();
        promise15Mix();
        promise16Rises();
        promise17Like();
        promise18Forget();
        promise19Own();
        promise20Ask();
        promise21Take();
        promise22Pass();
        promise23Passes();
        promise24Hour();
        promise25Image();
        promise26Restore();
        promise27Told();
        C.finish();
    }

    private static void due(String call, long got, long want) {
        C.due(call, got, want);
    }

    private static CradleHour written(String text) {
        CradleHour x = new CradleHour();
        Checks.say(x, text);
        return x;
    }

    private static String times(String text, int n) {
        return text.repeat(n);
    }

    private static void promise1New() {
        CradleHour x = new CradleHour();
        for (int p = 0; p < 40; p++) {
            due("new: told(100 + " + p + ")", x.told(100 + p), p % 9 + 1);
            due("new: told(200 + " + p + ")", x.told(200 + p), 0);
            due("new: told(300 + " + p + ")", x.told(300 + p), NONE);
        }
        for (int h = 0; h < 6; h++) {
            due("new: told(10 + " + h + ")", x.told(10 + h), 0);
            due("new: told(20 + " + h + ")", x.told(20 + h), 5);
            due("new: told(30 + " + h + ")", x.told(30 + h), 0);
            due("new: told(40 + " + h + ")", x.told(40 + h), NONE);
        }
        for (int what = 0; what <= 4; what++) {
            due("new: told(" + what + ")", x.told(what), 0);
        }
        due("new: fault()", x.fault(), NONE);
        due("new: restore(0)", x.restore(0), STATE);
        due("new: restore(1)", x.restore(1), STATE);
    }

    private static void promise2Cradle() {
        CradleHour x = new CradleHour();
        due("cradle(8, 1, 1, 5)", x.cradle(8, 1, 1, 5), 9);
        due("cradle(8, 9, 0, -1)", x.cradle(8, 9, 0, -1), 1);
        due("told(208)", x.told(208), 0);
        due("told(308)", x.told(308), NONE);
        due("cradle(39, 9, 1, 0)", x.cradle(39, 9, 1, 0), 4);
        due("told(139)", x.told(139), 9);
        due("told(239)", x.told(239), 1);
        due("told(339)", x.told(339), 0);
        due("cradle(38, 9, 1, 0)", x.cradle(38, 9, 1, 0), 3);
        due("one HEIR of two CRADLES", x.told(339) + x.told(338), 0);
        due("cradle(40, 1, 0, 0)", x.cradle(40, 1, 0, 0), UNKNOWN);
        due("cradle(-1, 1, 0, 0)", x.cradle(-1, 1, 0, 0), UNKNOWN);
        due("cradle(0, 1, 0, 6)", x.cradle(0, 1, 0, 6), UNKNOWN);
        due("cradle(0, 1, 0, -2)", x.cradle(0, 1, 0, -2), UNKNOWN);
        due("cradle(0, 0, 0, 6): UNKNOWN is first", x.cradle(0, 0, 0, 6), UNKNOWN);
        due("cradle(40, 0, 2, 0): UNKNOWN is first", x.cradle(40, 0, 2, 0), UNKNOWN);
        due("cradle(0, 0, 0, 0)", x.cradle(0, 0, 0, 0), OUTSIDE);
        due("cradle(0, 10, 0, 0)", x.cradle(0, 10, 0, 0), OUTSIDE);
        due("cradle(0, 1, 2, 0)", x.cradle(0, 1, 2, 0), OUTSIDE);
        due("cradle(0, 1, -1, 0)", x.cradle(0, 1, -1, 0), OUTSIDE);
        for (int far : FAR) {
            due("cradle(" + far + ", 1, 0, 0)", x.cradle(far, 1, 0, 0), UNKNOWN);
            due("cradle(0, " + far + ", 0, 0)", x.cradle(0, far, 0, 0), OUTSIDE);
            due("cradle(0, 1, " + far + ", 0)", x.cradle(0, 1, far, 0), OUTSIDE);
            due("cradle(0, 1, 0, " + far + ")", x.cradle(0, 1, 0, far), UNKNOWN);
        }
        due("refused: BEAT", x.told(100), 1);
        due("refused: NICK", x.told(200), 0);
        due("refused: whose", x.told(300), NONE);
    }

    private static void promise3Heir() {
        CradleHour x = written("B>5B?B!");
        x.cradle(5, 5, 0, -1);
        due("done()", x.done(), 3);
        due("told(41)", x.told(41), 5);
        due("told(31)", x.told(31), 1);
        due("heir(1, 39, 9)", x.heir(1, 39, 9), 5);
        due("told(11)", x.told(11), 39);
        due("told(21)", x.told(21), 9);
        due("told(31)", x.told(31), 0);
        due("told(41)", x.told(41), NONE);
        due("heir(1, 0, 1)", x.heir(1, 0, 1), 39);
        due("heir(6, 0, 1)", x.heir(6, 0, 1), UNKNOWN);
        due("heir(-1, 0, 1)", x.heir(-1, 0, 1), UNKNOWN);
        due("heir(0, 40, 1)", x.heir(0, 40, 1), UNKNOWN);
        due("heir(0, -1, 1)", x.heir(0, -1, 1), UNKNOWN);
        due("heir(0, 40, 0): UNKNOWN is first", x.heir(0, 40, 0), UNKNOWN);
        due("heir(0, 7, 0)", x.heir(0, 7, 0), OUTSIDE);
        due("heir(0, 7, 10)", x.heir(0, 7, 10), OUTSIDE);
        for (int far : FAR) {
            due("heir(" + far + ", 0, 1)", x.heir(far, 0, 1), UNKNOWN);
            due("heir(0, " + far + ", 1)", x.heir(0, far, 1), UNKNOWN);
            due("heir(0, 7, " + far + ")", x.heir(0, 7, far), OUTSIDE);
        }
        due("refused: where", x.told(10), 0);
        due("refused: KEPT", x.told(20), 5);
    }

    private static void promise4Say() {
        CradleHour x = new CradleHour();
        due("say(32)", x.say(32), OUTSIDE);
        due("say(127)", x.say(127), OUTSIDE);
        due("say(0)", x.say(0), OUTSIDE);
        for (int far : FAR) {
            due("say(" + far + ")", x.say(far), OUTSIDE);
        }
        due("say(33)", x.say(33), 1);
        due("say(126)", x.say(126), 2);
        for (int n = 3; n <= 60; n++) {
            due("say, the sign " + n, x.say(46), n);
        }
        due("say(46), full", x.say(46), FULL);
        due("say(32), full: OUTSIDE is first", x.say(32), OUTSIDE);
        due("told(0)", x.told(0), 60);
    }

    private static void promise5Wipe() {
        CradleHour x = written("A?.");
        due("wipe()", x.wipe(), 3);
        due("wipe()", x.wipe(), 0);
        due("told(0)", x.told(0), 0);
        due("say(65)", x.say(65), 1);
        due("wipe()", x.wipe(), 1);
        Checks.say(x, times(".", 60));
        due("wipe(), full", x.wipe(), 60);
        due("say(46)", x.say(46), 1);
    }

    private static void fault(String text, int want) {
        due("fault() of " + text, written(text).fault(), want);
    }

    private static void promise6Fault() {
        fault("", NONE);
        fault(".", NONE);
        fault("A?", NONE);
        fault("A>9B<1C*D~E!F1F9.", NONE);
        fault("G", 0);
        fault("@", 0);
        fault("a", 0);
        fault("?", 0);
        fault("1", 0);
        fault("A", 1);
        fault("F", 1);
        fault("A.", 1);
        fault("AA", 1);
        fault("A0", 1);
        fault("A:", 1);
        fault("A>", 2);
        fault("A<", 2);
        fault("A>0", 2);
        fault("A>:", 2);
        fault("A<?", 2);
        fault("A>.", 2);
        fault("A>>1", 2);
        fault("A>12", 3);
        fault("A??", 2);
        fault("..B", 3);
        fault("A?x?B", 2);
        fault(times(".", 60), NONE);
        fault(times(".", 59) + "A", 60);
        fault(times(".", 58) + "A>", 60);
        fault(times(".", 57) + "A>1", NONE);
        CradleHour x = written("A");
        x.say(200);
        due("fault(), a sign being refused", x.fault(), 1);
    }

    private static void promise7Judge() {
        CradleHour x = new CradleHour();
        due("judge(0), no ACTS", x.judge(0), NONE);
        due("judge(1), no ACTS", x.judge(1), NONE);
        due("judge(2), no ACTS", x.judge(2), 0);
        due("judge(-1)", x.judge(-1), OUTSIDE);
        due("judge(3)", x.judge(3), OUTSIDE);
        x.cradle(0, 5, 0, -1);
        Checks.write(x, "A?B?A?C3A?");
        due("judge(2), all together", x.judge(2), 3);
        Checks.say(x, "C3");
        due("judge(0), barred", x.judge(0), 5);
        due("judge(1), barred", x.judge(1), 3);
        due("judge(2), barred", x.judge(2), STATE);
        Checks.say(x, "C");
        due("judge(0), FAULT", x.judge(0), NO);
        due("judge(1), FAULT", x.judge(1), NO);
        due("judge(2), FAULT", x.judge(2), NO);
        due("judge(9), FAULT: OUTSIDE is first", x.judge(9), OUTSIDE);
        due("nothing was DONE", x.told(30), 0);
        due("the text stays", x.told(0), 13);
        x.wipe();
        for (int round = 0; round < 3; round++) {
            Checks.say(x, times("A?", 30));
            due("judge(2), 30 times", x.judge(2), 30);
            due("done()", x.done(), 30);
        }
        Checks.say(x, times("A?", 30));
        due("judge(2) counts beyond 99", x.judge(2), 30);
        due("behind(0, 1) stays at 99", x.behind(0, 1), 99);
        x.done();
        due("told(30) stays at 99", x.told(30), 99);
        Checks.say(x, "A?");
        due("judge(2) at 99", x.judge(2), 1);
        due("behind(0, 1) at 99", x.behind(0, 1), 99);
    }

    private static void barred(CradleHour x, String text, int act, int why) {
        Checks.write(x, text);
        due("judge(0) of " + text, x.judge(0), act);
        due("judge(1) of " + text, x.judge(1), why);
    }

    private static void promise7Reasons() {
        CradleHour x = new CradleHour();
        for (String deed : new String[] {">1", "<1", "?", "*", "1", "7", "~", "!"}) {
            barred(x, "A!A" + deed, 1, 1);
        }
        barred(x, "A!.", NONE, NONE);
        barred(x, "A<1", 0, 2);
        barred(x, "A>1A<1", NONE, NONE);
        barred(x, "A>9A>9A>9A>9A>3", NONE, NONE);
        barred(x, "A>9A>9A>9A>9A>4", 4, 2);
        barred(x, "A>9A>9A>9A>9A>3A~", 5, 2);
        barred(x, "A>9A>9A>9A>9A>2A~", NONE, NONE);
        barred(x, "A1", 0, 3);
        barred(x, "A2A2", 1, 3);
        barred(x, "A2A1", NONE, NONE);
        barred(x, "A!B!", 1, 4);
        barred(x, "A!B>1B!", NONE, NONE);
        barred(x, "B<9A<1", 0, 2);
        Checks.write(x, times(".", 60));
        due("judge(0) of 60 minutes", x.judge(0), NONE);
        due("done() of 60 minutes", x.done(), 60);
        barred(x, ".", 0, 5);
        barred(x, "A?A*.", 2, 5);
        due("house(3), barred", x.house(3), STATE);
        x.wipe();
        due("house(3)", x.house(3), 60);
    }

    private static void refusedText(String name, CradleHour x, java.util.function.IntSupplier call) {
        Checks.write(x, "A");
        due(name + ", FAULT", call.getAsInt(), NO);
        Checks.write(x, "A<1");
        due(name + ", barred", call.getAsInt(), STATE);
        Checks.write(x, "A<1A");
        due(name + ", barred and FAULT", call.getAsInt(), NO);
        x.wipe();
    }

    private static void promise8Behind() {
        CradleHour x = new CradleHour();
        Checks.say(x, "C>4C?C~C<1C?D!");
        due("behind(2, 0)", x.behind(2, 0), 3);
        due("behind(2, 1)", x.behind(2, 1), 1);
        due("behind(2, 2)", x.behind(2, 2), NONE);
        due("behind(3, 2)", x.behind(3, 2), 0);
        due("behind(3, 0)", x.behind(3, 0), 0);
        due("behind(5, 0)", x.behind(5, 0), 0);
        due("nothing DONE", x.told(12), 0);
        due("behind(6, 0)", x.behind(6, 0), UNKNOWN);
        due("behind(-1, 3): UNKNOWN is first", x.behind(-1, 3), UNKNOWN);
        due("behind(0, 3)", x.behind(0, 3), OUTSIDE);
        due("behind(0, -1)", x.behind(0, -1), OUTSIDE);
        x.done();
        Checks.say(x, "C>1C?");
        due("behind(2, 1): HEARD ahead of the text, too", x.behind(2, 1), 1);
        x.heir(2, 4, 6);
        Checks.write(x, "C?C?");
        due("behind(2, 1), now 6 at 4", x.behind(2, 1), 2);
        Checks.write(x, "A");
        due("behind(6, 0), FAULT", x.behind(6, 0), UNKNOWN);
        due("behind(0, 3), FAULT", x.behind(0, 3), OUTSIDE);
        CradleHour y = new CradleHour();
        for (int what = 0; what <= 2; what++) {
            int w = what;
            refusedText("behind(0, " + w + ")", y, () -> y.behind(0, w));
        }
    }

    private static void promise9Stands() {
        CradleHour x = new CradleHour();
        x.cradle(0, 7, 1, 4);
        Checks.say(x, "A~A>1A*B9");
        due("stands(0, 0)", x.stands(0, 0), 9);
        due("stands(1, 0)", x.stands(1, 0), 7);
        due("stands(0, 1)", x.stands(0, 1), 0);
        due("stands(1, 1): cut twice", x.stands(1, 1), 0);
        due("stands(1, 2)", x.stands(1, 2), 4);
        due("stands(0, 2)", x.stands(0, 2), NONE);
        due("stands(39, 0)", x.stands(39, 0), 4);
        due("told(100)", x.told(100), 7);
        due("stands(40, 0)", x.stands(40, 0), UNKNOWN);
        due("stands(-1, 9): UNKNOWN is first", x.stands(-1, 9), UNKNOWN);
        due("stands(0, 3)", x.stands(0, 3), OUTSIDE);
        due("stands(0, -1)", x.stands(0, -1), OUTSIDE);
        for (int what = 0; what <= 2; what++) {
            int w = what;
            refusedText("stands(0, " + w + ")", x, () -> x.stands(0, w));
        }
    }

    private static void promise10House() {
        CradleHour x = new CradleHour();
        x.cradle(1, 1, 1, 5);
        x.cradle(3, 1, 1, 0);
        Checks.say(x, "F>1F!A>2A!B*.");
        due("house(0)", x.house(0), 33);
        due("house(1)", x.house(1), 32);
        due("house(2)", x.house(2), 3);
        due("house(3)", x.house(3), 1);
        Checks.say(x, "C>1C~");
        due("house(1): A's own came by", x.house(1), 33);
        due("behind(2, 0): NICK at 0, then on", x.behind(2, 0), 2);
        due("told(1)", x.told(1), 0);
        due("house(4)", x.house(4), OUTSIDE);
        due("house(-1)", x.house(-1), OUTSIDE);
        Checks.write(x, "A");
        due("house(4), FAULT", x.house(4), OUTSIDE);
        for (int what = 0; what <= 3; what++) {
            int w = what;
            refusedText("house(" + w + ")", x, () -> x.house(w));
        }
    }

    private static void promise11Wrong() {
        CradleHour x = new CradleHour();
        due("wrong(0)", x.wrong(0), NONE);
        due("wrong(1)", x.wrong(1), NONE);
        x.cradle(0, 1, 0, 2);
        x.cradle(1, 2, 0, 3);
        Checks.say(x, ".C!");
        due("wrong(0), right", x.wrong(0), NONE);
        Checks.say(x, "D>2D!B>1B!");
        due("wrong(0)", x.wrong(0), 3);
        due("wrong(1)", x.wrong(1), 3);
        Checks.write(x, "C!A~");
        due("wrong(0): right when he CHOSE", x.wrong(0), NONE);
        due("house(1): not right behind it", x.house(1), 0);
        Checks.write(x, "A~C!B>1B~");
        due("wrong(0): wrong when he CHOSE", x.wrong(0), 1);
        due("wrong(1)", x.wrong(1), 2);
        x.done();
        Checks.write(x, "D?");
        due("wrong(0) is of this text", x.wrong(0), NONE);
        due("wrong(2)", x.wrong(2), OUTSIDE);
        due("wrong(-1)", x.wrong(-1), OUTSIDE);
        for (int what = 0; what <= 1; what++) {
            int w = what;
            refusedText("wrong(" + w + ")", x, () -> x.wrong(w));
        }
    }

    private static void promise12Done() {
        CradleHour x = new CradleHour();
        due("done(), no ACTS", x.done(), 0);
        x.cradle(0, 5, 0, 1);
        Checks.say(x, "A?A*A~B>1B!..");
        due("done()", x.done(), 7);
        due("told(0)", x.told(0), 0);
        due("told(30)", x.told(30), 1);
        due("told(201)", x.told(201), 1);
        due("told(101)", x.told(101), 5);
        due("told(100)", x.told(100), 2);
        due("told(301)", x.told(301), 1);
        due("told(41)", x.told(41), 1);
        due("told(11): CHOSEN, he stays", x.told(11), 1);
        due("told(3)", x.told(3), 2);
        refusedText("done()", x, x::done);
        Checks.say(x, "A?A<1");
        due("done(), barred", x.done(), STATE);
        due("told(0): refused, the text stays", x.told(0), 5);
        due("told(10)", x.told(10), 0);
    }

    private static void seek(int odds, int minutes, int n, long upper, long lower) {
        CradleHour x = new CradleHour();
        String call = "seek(" + odds + ", " + minutes + ", " + n + ")";
        due(call + " upper", x.seek(odds, minutes, n, 0), upper);
        due(call + " lower", x.seek(odds, minutes, n, 1), lower);
    }

    private static void seekOutside(int odds, int minutes, int n, int part) {
        String call = "(" + odds + ", " + minutes + ", " + n + ", " + part + ")";
        CradleHour x = new CradleHour();
        due("seek" + call, x.seek(odds, minutes, n, part), GONE_OUTSIDE);
        if (part == 0) {
            due("looks" + call, x.looks(odds, minutes, n), OUTSIDE);
        }
    }

    private static void promise13Seek() {
        seek(1, 1, 1, 1, 1);
        seek(9, 7, 1, 7, 1);
        seek(11, 12, 2, 2, 1);
        seek(12, 11, 2, 4, 3);
        seek(91, 19, 2, 19, 10);
        seek(999999999, 999999999, 9, 45, 1);
        seekOutside(1, 1, 0, 0);
        seekOutside(1, 1, -1, 0);
        seekOutside(1, 1, 10, 0);
        seekOutside(1, 1, 1, 2);
        seekOutside(1, 1, 1, -1);
        seekOutside(10, 11, 2, 0);
        seekOutside(11, 10, 2, 0);
        seekOutside(101, 111, 3, 0);
        seekOutside(11, 111, 3, 0);
        seekOutside(111, 11, 3, 0);
        seekOutside(1111, 111, 3, 0);
        seekOutside(111, 1111, 3, 0);
        seekOutside(-111, 111, 3, 0);
        seekOutside(111, -111, 3, 0);
        seekOutside(1111111111, 111111111, 9, 0);
        seekOutside(111111111, 1111111111, 9, 0);
        seekOutside(Integer.MAX_VALUE, 111111111, 9, 0);
        seekOutside(Integer.MIN_VALUE, 111111111, 9, 0);
        for (int far : FAR) {
            seekOutside(1, 1, far, 0);
            seekOutside(1, 1, 1, far);
            seekOutside(0, far, 1, 0);
        }
    }

    private static void promise14Looks() {
        CradleHour x = new CradleHour();
        due("looks(1, 1, 1)", x.looks(1, 1, 1), 0);
        due("looks(12, 11, 2)", x.looks(12, 11, 2), 1);
        due("looks(21, 11, 2)", x.looks(21, 11, 2), 0);
        due("looks(11, 21, 2)", x.looks(11, 21, 2), 1);
        due("looks(123, 246, 3): the least of equals", x.looks(123, 246, 3), 0);
        due("looks(124, 312, 3): the least of equals", x.looks(124, 312, 3), 1);
        due("looks(111111119, 111111111, 9)", x.looks(111111119, 111111111, 9), 8);
    }

    private static void promise15Mix() {
        CradleHour x = new CradleHour();
        due("mix(8, 0, 1, 0)", x.mix(8, 0, 1, 0), 0);
        due("mix(8, 3, 1, 0)", x.mix(8, 3, 1, 0), 6);
        due("mix(8, 4, 1, 0)", x.mix(8, 4, 1, 0), 1);
        due("mix(8, 7, 1, 0)", x.mix(8, 7, 1, 0), 7);
        due("mix(8, 5, 0, 0)", x.mix(8, 5, 0, 0), 5);
        due("mix(8, 5, 999999999, 0)", x.mix(8, 5, 999999999, 0), 5);
        due("mix(8, 0, 0, 1)", x.mix(8, 0, 0, 1), 3);
        due("mix(4, 3, 999999999, 1)", x.mix(4, 3, 999999999, 1), 2);
        due("mix(2, 0, 999999999, 0)", x.mix(2, 0, 999999999, 0), 0);
        due("mix(2, 1, 999999999, 0)", x.mix(2, 1, 999999999, 0), 1);
        due("mix(2, 0, 0, 1)", x.mix(2, 0, 0, 1), 1);
        int[][] outside = {
            {0, 0, 0, 0}, {1, 0, 0, 0}, {7, 0, 0, 0}, {997, 0, 0, 0}, {999, 0, 0, 0}, {1000, 0, 0, 0}, {-2, 0, 0, 0},
            {8, -1, 0, 0}, {8, 8, 0, 0}, {8, 8, 0, 1}, {8, -1, 0, 1}, {8, 0, -1, 0}, {8, 0, 1000000000, 0},
            {8, 0, -1, 1}, {8, 0, 1000000000, 1}, {8, 0, 0, 2}, {8, 0, 0, -1},
            {Integer.MIN_VALUE, 0, 0, 0}, {Integer.MAX_VALUE - 1, 0, 0, 0}, {8, Integer.MAX_VALUE, 0, 0},
            {8, 0, Integer.MIN_VALUE, 0}, {8, 0, 0, Integer.MAX_VALUE}};
        for (int[] a : outside) {
            due("mix" + java.util.Arrays.toString(a), x.mix(a[0], a[1], a[2], a[3]), OUTSIDE);
        }
    }

    private static void promise16Rises() {
        CradleHour x = new CradleHour();
        due("rises(39, 0)", x.rises(39, 0), 1);
        due("rises(39, 1)", x.rises(39, 1), 39);
        due("rises(35, 0): 9 is left out", x.rises(35, 0), 4);
        due("rises(35, 1)", x.rises(35, 1), 36);
        for (int p = 0; p < 40; p++) {
            x.cradle(p, 9 - p % 9, 0, -1);
        }
        due("rises(0, 0)", x.rises(0, 0), 5);
        due("rises(0, 1)", x.rises(0, 1), 0);
        due("rises(27, 0)", x.rises(27, 0), 2);
        due("rises(27, 1): the least", x.rises(27, 1), 27);
        for (int p = 0; p < 40; p++) {
            x.cradle(p, 4, 0, -1);
        }
        due("rises(0, 0): equals do not fall", x.rises(0, 0), 40);
        due("rises(3, 0)", x.rises(3, 0), 37);
        due("rises(3, 1)", x.rises(3, 1), 3);
        Checks.say(x, "A9");
        due("rises(0, 0): as they stand now", x.rises(0, 0), 40);
        x.done();
        due("rises(0, 0)", x.rises(0, 0), 39);
        due("rises(0, 1)", x.rises(0, 1), 1);
        due("rises(40, 2): UNKNOWN is first", x.rises(40, 2), UNKNOWN);
        due("rises(-1, 0)", x.rises(-1, 0), UNKNOWN);
        due("rises(0, 2)", x.rises(0, 2), OUTSIDE);
        due("rises(0, -1)", x.rises(0, -1), OUTSIDE);
        for (int far : FAR) {
            due("rises(" + far + ", 0)", x.rises(far, 0), UNKNOWN);
            due("rises(0, " + far + ")", x.rises(0, far), OUTSIDE);
        }
    }

    private static void promise17Like() {
        CradleHour x = new CradleHour();
        due("like(0, 0, true)", x.like(0, 0, true), OUTSIDE);
        due("like(10, 0, true)", x.like(10, 0, true), OUTSIDE);
        due("like(1, -1, true)", x.like(1, -1, true), OUTSIDE);
        due("like(1, 9, false)", x.like(1, 9, false), OUTSIDE);
        for (int far : FAR) {
            due("like(" + far + ", 0, true)", x.like(far, 0, true), OUTSIDE);
            due("like(1, " + far + ", true)", x.like(1, far, true), OUTSIDE);
        }
        due("told(4), refused", x.told(4), 0);
        for (int n = 1; n <= 8; n++) {
            due("like, the SIGHT " + n, x.like(9, 8, true), n);
        }
        due("like(1, 0, true), full", x.like(1, 0, true), FULL);
        due("like(0, 0, true), full: OUTSIDE is first", x.like(0, 0, true), OUTSIDE);
        due("told(4)", x.told(4), 8);
        due("own(-1): the ninth is no SIGHT", x.own(-1), 40);
    }

    private static void promise18Forget() {
        CradleHour x = new CradleHour();
        due("forget()", x.forget(), 0);
        x.like(1, 0, true);
        x.like(1, 0, false);
        due("own(-1): they gainsay one another", x.own(-1), 0);
        due("forget()", x.forget(), 2);
        due("forget()", x.forget(), 0);
        due("own(-1)", x.own(-1), 40);
        due("like(1, 0, true)", x.like(1, 0, true), 1);
    }

    private static void promise19Own() {
        CradleHour x = new CradleHour();
        due("own(-1)", x.own(-1), 40);
        due("own(0)", x.own(0), 0);
        due("own(39)", x.own(39), 39);
        due("own(40)", x.own(40), NONE);
        x.like(5, 1, true);
        x.like(5, 0, false);
        due("own(-1): 4 and 6", x.own(-1), 9);
        due("own(0)", x.own(0), 3);
        due("own(1)", x.own(1), 5);
        due("own(8)", x.own(8), 39);
        due("own(9)", x.own(9), NONE);
        due("own(-2)", x.own(-2), NONE);
        due("own(min)", x.own(Integer.MIN_VALUE), NONE);
        due("own(max)", x.own(Integer.MAX_VALUE), NONE);
        x.cradle(0, 4, 0, -1);
        due("own(-1): as they stand now", x.own(-1), 10);
        due("own(0)", x.own(0), 0);
    }

    private static void promise20Ask() {
        CradleHour x = new CradleHour();
        due("ask(0)", x.ask(0), 13);
        due("ask(1)", x.ask(1), 20);
        due("ask(2)", x.ask(2), OUTSIDE);
        due("ask(-1)", x.ask(-1), OUTSIDE);
        for (int p = 0; p < 40; p++) {
            x.cradle(p, 1, 0, -1);
        }
        due("ask(0): nothing tells them apart", x.ask(0), 10);
        due("ask(1)", x.ask(1), 40);
        x.cradle(7, 9, 0, -1);
        due("ask(1)", x.ask(1), 39);
        due("ask(0): the least of equals", x.ask(0), 10);
        x.like(9, 0, true);
        due("ask(0), one fits", x.ask(0), 10);
        due("ask(1), one fits", x.ask(1), 1);
        x.like(9, 0, false);
        due("ask(0), nothing fits", x.ask(0), NONE);
        due("ask(1), nothing fits", x.ask(1), NONE);
        due("ask(2), nothing fits", x.ask(2), OUTSIDE);
    }

    private static void promise21Take() {
        CradleHour x = new CradleHour();
        int[][] firsts = {{1, 0}, {2, 1}, {3, 0}, {4, 1}, {5, 2}, {6, 3}, {7, 0}, {8, 1}, {14, 7}, {15, 0}, {998, 487}};
        for (int[] row : firsts) {
            due("take(" + row[0] + ", 0)", x.take(row[0], 0), row[1] == 0 ? 0 : 1);
            due("take(" + row[0] + ", 1)", x.take(row[0], 1), row[1] == 0 ? NONE : row[1]);
        }
        due("take(0, 0)", x.take(0, 0), OUTSIDE);
        due("take(-1, 0)", x.take(-1, 0), OUTSIDE);
        due("take(1000, 1)", x.take(1000, 1), OUTSIDE);
        due("take(5, 2)", x.take(5, 2), OUTSIDE);
        due("take(5, -1)", x.take(5, -1), OUTSIDE);
        for (int far : FAR) {
            due("take(" + far + ", 0)", x.take(far, 0), OUTSIDE);
            due("take(1, " + far + ")", x.take(1, far), OUTSIDE);
        }
    }

    private static void promise22Pass() {
        CradleHour x = new CradleHour();
        long[][] rows = {{1, 0, 1, 1}, {2, 0, 1, 2}, {2, 1, 1, 2}, {3, 0, 1, 3}, {3, 1, 1, 2}, {3, 2, 1, 3}, {20, 0, 1, 20}};
        for (long[] row : rows) {
            String call = "pass(" + row[0] + ", " + row[1] + ")";
            due(call + " upper", x.pass((int) row[0], (int) row[1], 0), row[2]);
            due(call + " lower", x.pass((int) row[0], (int) row[1], 1), row[3]);
        }
        int[][] outside = {{0, 0, 0}, {-1, 0, 0}, {21, 0, 0}, {1, 1, 0}, {5, 5, 0}, {5, -1, 0}, {5, 0, 2}, {5, 0, -1},
            {Integer.MIN_VALUE, 0, 0}, {Integer.MAX_VALUE, 0, 0}, {5, Integer.MIN_VALUE, 0}, {5, Integer.MAX_VALUE, 0},
            {5, 0, Integer.MIN_VALUE}, {5, 0, Integer.MAX_VALUE}};
        for (int[] a : outside) {
            due("pass" + java.util.Arrays.toString(a), x.pass(a[0], a[1], a[2]), GONE_OUTSIDE);
        }
    }

    private static void promise23Passes() {
        CradleHour x = new CradleHour();
        int[] best = {0, 0, 1, 1, 2, 2, 2, 3, 3, 3, 4, 4, 5, 5, 5, 6, 6, 6, 7, 7};
        for (int n = 1; n <= 20; n++) {
            due("passes(" + n + ")", x.passes(n), best[n - 1]);
        }
        due("passes(0)", x.passes(0), OUTSIDE);
        due("passes(21)", x.passes(21), OUTSIDE);
        for (int far : FAR) {
            due("passes(" + far + ")", x.passes(far), OUTSIDE);
        }
    }

    private static void promise24Hour() {
        CradleHour x = new CradleHour();
        // x = 74: HEIR 2, 12 left over by 8 is 4: a NICK where he stands.
        due("hour(0, 1, 0)", x.hour(0, 1, 0), 0);
        due("hour(0, 1, 1)", x.hour(0, 1, 1), 1);
        due("hour(0, 1, 2)", x.hour(0, 1, 2), 0);
        due("told(2): nothing is DONE", x.told(2), 0);
        x.cradle(0, 1, 1, -1);
        due("hour(0, 1, 1): from all as it is, the NICK goes", x.hour(0, 1, 1), 0);
        Checks.say(x, "C>1C!");
        x.done();
        due("hour(0, 1, 1): he has CHOSEN", x.hour(0, 1, 1), 1);
        due("hour(0, 1, 2)", x.hour(0, 1, 2), 4);
        x.heir(0, 17, 1);
        due("hour(0, 1, 0)", x.hour(0, 1, 0), 17);
        Checks.say(x, "A");
        due("hour(0, 1, 0): the PAD is no matter", x.hour(0, 1, 0), 17);
        int[][] outside = {{-1, 1, 0}, {10000, 1, 0}, {0, 0, 0}, {0, 100, 0}, {0, -1, 0}, {0, 1, 3}, {0, 1, -1},
            {Integer.MAX_VALUE, 1, 0}, {Integer.MIN_VALUE, 1, 0}, {0, Integer.MAX_VALUE, 0}, {0, Integer.MIN_VALUE, 0},
            {0, 1, Integer.MAX_VALUE}, {0, 1, Integer.MIN_VALUE}};
        for (int[] a : outside) {
            due("hour" + java.util.Arrays.toString(a), x.hour(a[0], a[1], a[2]), OUTSIDE);
        }
    }

    private static void promise25Image() {
        CradleHour x = new CradleHour();
        due("image(-1)", x.image(-1), OUTSIDE);
        due("image(2)", x.image(2), OUTSIDE);
        due("image(0)", x.image(0), 1);
        due("restore(1): only 0 is kept", x.restore(1), STATE);
        x.cradle(0, 9, 1, 3);
        due("image(0), again", x.image(0), 1);
        x.cradle(0, 2, 0, -1);
        x.restore(0);
        due("told(100): the later one", x.told(100), 9);
        for (int far : FAR) {
            due("image(" + far + ")", x.image(far), OUTSIDE);
        }
    }

    private static void promise26Restore() {
        CradleHour x = new CradleHour();
        x.image(1);
        x.cradle(4, 9, 1, 3);
        x.heir(2, 4, 9);
        Checks.say(x, ".C<1C?A!");
        due("done()", x.done(), 4);
        x.like(2, 0, true);
        x.like(3, 1, false);
        due("image(0)", x.image(0), 1);
        Checks.say(x, "A?");
        due("restore(1)", x.restore(1), 1);
        for (int what : new int[] {1, 2, 3, 4, 12, 32, 204}) {
            due("told(" + what + "), as at first", x.told(what), 0);
        }
        due("told(0): the PAD stays", x.told(0), 2);
        due("own(-1), as at first", x.own(-1), 40);
        due("judge(0): he has CHOSEN none", x.judge(0), NONE);
        due("restore(0)", x.restore(0), 1);
        due("told(1)", x.told(1), 1);
        due("told(2)", x.told(2), 1);
        due("told(3)", x.told(3), 1);
        due("told(4)", x.told(4), 2);
        due("told(12)", x.told(12), 4);
        due("told(22)", x.told(22), 9);
        due("told(32)", x.told(32), 1);
        due("told(40)", x.told(40), 0);
        due("told(104)", x.told(104), 9);
        due("told(204)", x.told(204), 1);
        due("told(304)", x.told(304), 3);
        due("own(-1)", x.own(-1), 0);
        due("told(0): the PAD stays", x.told(0), 2);
        due("judge(1): he has CHOSEN", x.judge(1), 1);
        x.cradle(4, 1, 0, -1);
        x.forget();
        due("restore(0), twice", x.restore(0), 1);
        due("told(104), twice", x.told(104), 9);
        due("told(4), twice", x.told(4), 2);
        due("restore(-1)", x.restore(-1), OUTSIDE);
        due("restore(2)", x.restore(2), OUTSIDE);
        for (int far : FAR) {
            due("restore(" + far + ")", x.restore(far), OUTSIDE);
        }
    }

    private static void promise27Told() {
        CradleHour x = new CradleHour();
        x.cradle(39, 2, 1, 5);
        x.heir(5, 39, 2);
        Checks.say(x, "F?F?F!.");
        x.done();
        x.like(1, 1, true);
        x.say('A');
        due("told(0)", x.told(0), 1);
        due("told(1)", x.told(1), 32);
        due("told(2)", x.told(2), 1);
        due("told(3)", x.told(3), 1);
        due("told(4)", x.told(4), 1);
        due("told(15)", x.told(15), 39);
        due("told(25)", x.told(25), 2);
        due("told(35)", x.told(35), 2);
        due("told(45)", x.told(45), 39);
        due("told(139)", x.told(139), 2);
        due("told(239)", x.told(239), 1);
        due("told(339)", x.told(339), 5);
        due("told(338)", x.told(338), NONE);
        int[] outside = {-1, 5, 9, 16, 19, 26, 29, 36, 39, 46, 49, 50, 55, 99, 140, 199, 240, 299, 340, 399, 400, 410, 1000,
            Integer.MIN_VALUE, Integer.MAX_VALUE, -10, -100, -110};
        for (int what : outside) {
            due("told(" + what + ")", x.told(what), OUTSIDE);
        }
    }
}
