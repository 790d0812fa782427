import java.util.ArrayList;
import java.util.List;

/**
 * Objects in the states in which calls are refused, and all that can be told of an object, so that two objects made
 * alike can be compared when only one of them had a refused call. An object may be used for 512 calls only: making
 * one takes 200 at the most, and so each view of it stays below 300.
 */
final class States {
    /** What is on the PAD (and, of FULL, all else too) when the refused call comes. */
    enum State {
        /** As it is made. */
        FRESH,
        /** Something everywhere, and a text of which every ACT can be. */
        BUSY,
        /** The same, with a text that has a FAULT. */
        FAULTY,
        /** The same, with a text of which an ACT can not be. */
        BARRED,
        /** The same, with a text that has a FAULT behind an ACT that can not be. */
        FAULTY_AND_BARRED,
        /** 60 signs, 8 SIGHTS, minute 60, 40 NICKS, both IMAGES. */
        FULL
    }

    /** One way to look at an object; some of them change it, so each is for an object of its own. */
    private interface View {
        List<Long> of(CradleHour x);
    }

    private static final View[] VIEWS = {
        States::now, States::behindTheText, States::whenDone, x -> whenRestored(x, 0), x -> whenRestored(x, 1)};

    static final int VIEW_COUNT = VIEWS.length;

    private States() {
    }

    static List<Long> view(int k, CradleHour x) {
        return VIEWS[k].of(x);
    }

    static CradleHour made(State state) {
        CradleHour x = new CradleHour();
        switch (state) {
            case FRESH:
                return x;
            case BUSY:
                return busy(x, "C?C!B>9");
            case FAULTY:
                return busy(x, "C?B>");
            case BARRED:
                return busy(x, "C?B<1");
            case FAULTY_AND_BARRED:
                return busy(x, "B<1B>");
            default:
                return full(x);
        }
    }

    private static CradleHour busy(CradleHour x, String text) {
        x.cradle(0, 7, 1, 4);
        x.cradle(12, 3, 0, 0);
        x.cradle(39, 9, 1, 5);
        x.heir(0, 12, 3);
        x.heir(3, 20, 2);
        x.heir(5, 39, 9);
        x.heir(1, 0, 8);
        Checks.say(x, "A?A!F?D*.");
        x.done();
        x.like(4, 2, true);
        x.like(9, 0, false);
        x.image(1);
        x.heir(1, 0, 8);
        x.cradle(5, 1, 1, 2);
        x.heir(2, 5, 1);
        x.like(3, 0, false);
        Checks.say(x, text);
        return x;
    }

    private static CradleHour full(CradleHour x) {
        x.image(0);
        for (int h = 0; h < 5; h++) {
            x.heir(h, 10 + h, 1 + h);
        }
        Checks.say(x, "A!B!C!D!E!");
        x.done();
        for (int p = 0; p < 40; p++) {
            x.cradle(p, 9 - p % 9, 1, p % 6);
        }
        Checks.say(x, ".".repeat(60));
        x.done();
        x.heir(5, 33, 4);
        for (int k = 0; k < 8; k++) {
            x.like(1 + k, 0, false);
        }
        x.image(1);
        Checks.say(x, "F*".repeat(30));
        return x;
    }

    private static void tellAll(CradleHour x, List<Long> answers) {
        for (int what = 0; what <= 4; what++) {
            answers.add((long) x.told(what));
        }
        for (int h = 0; h < 6; h++) {
            for (int row = 10; row <= 40; row += 10) {
                answers.add((long) x.told(row + h));
            }
        }
        for (int p = 0; p < 40; p++) {
            for (int row = 100; row <= 300; row += 100) {
                answers.add((long) x.told(row + p));
            }
        }
    }

    private static void tellOwn(CradleHour x, List<Long> answers) {
        for (int i = -1; i <= 40; i++) {
            answers.add((long) x.own(i));
        }
        answers.add((long) x.ask(0));
        answers.add((long) x.ask(1));
    }

    private static List<Long> now(CradleHour x) {
        List<Long> answers = new ArrayList<>();
        tellAll(x, answers);
        tellOwn(x, answers);
        answers.add((long) x.fault());
        return answers;
    }

    private static List<Long> behindTheText(CradleHour x) {
        List<Long> answers = new ArrayList<>();
        for (int what = 0; what <= 2; what++) {
            answers.add((long) x.judge(what));
            for (int h = 0; h < 6; h++) {
                answers.add((long) x.behind(h, what));
            }
            for (int p = 0; p < 40; p++) {
                answers.add((long) x.stands(p, what));
            }
        }
        for (int what = 0; what <= 3; what++) {
            answers.add((long) x.house(what));
        }
        answers.add((long) x.wrong(0));
        answers.add((long) x.wrong(1));
        return answers;
    }

    private static List<Long> whenDone(CradleHour x) {
        List<Long> answers = new ArrayList<>();
        answers.add((long) x.done());
        tellAll(x, answers);
        return answers;
    }

    private static List<Long> whenRestored(CradleHour x, int k) {
        List<Long> answers = new ArrayList<>();
        answers.add((long) x.restore(k));
        tellAll(x, answers);
        tellOwn(x, answers);
        return answers;
    }
}
