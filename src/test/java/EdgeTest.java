/** What the document says of ends and limits within the row, the texts and the sums: empty, full, 99, 60, the last PLACE. */
public final class EdgeTest {
    private static final Checks C = new Checks("EdgeTest");
    private static final int STATE = -3, FULL = -4, NO = -5, NONE = -6;
    private static final String HEIRS = "ABCDEF";

    public static void main(String[] args) {
        beatsAtFirst();
        faultOfEachFirstSign();
        faultOfEachSecondSign();
        faultOfEachThirdSign();
        faultOfTheEmptyPad();
        faultIfMoreMustCome();
        faultOfTheFullPad();
        signThatCanNotStandIsSaid();
        padHoldsSixty();
        goesOnToTheLastPlace();
        goesBackToTheFirstPlace();
        listensUpToNinetyNine();
        hearsOnlyWhatHeHasKept();
        hearsOnlyWhenHeListens();
        nickIsCutOrGone();
        beatItHasAlready();
        changesUpToTheLastPlace();
        changesAllOfTheCradle();
        chosenByAnother();
        chosenBySelf();
        chosenIsThePlace();
        hasChosenAllButMinutes();
        leastReason();
        minuteAtTheLastPlace();
        minuteMovesOncePerMinute();
        minuteLeavesWhoHasChosen();
        minuteSixty();
        minuteIsLeftByCradleAndHeir();
        firstActThatCanNotBe();
        emptyPadIsJudged();
        rightBehindTheText();
        wrongIsTheFirst();
        doneEmptiesThePad();
        heirForgetsAndIsFree();
        seekEqualChances();
        mixComesRound();
        risesAtTheEnds();
        risesOfTheEndsOfBeats();
        risesIsOfNow();
        sightsEightAtMost();
        sightsThatNothingFits();
        askOfOne();
        askOfTheHighestBeats();
        passTies();
        hourGoes();
        hourNicks();
        hourChooses();
        hourMinutes();
        hourChanges();
        hourDoesNothing();
        imageHoldsAllButThePad();
        imageHoldsEachSight();
        imageIsKeptAnew();
        imagesAreTwo();
        theLastCall();
        C.finish();
    }

    private static void due(String call, long got, long want) {
        C.due(call, got, want);
    }

    private static CradleHour written(String text) {
        CradleHour x = new CradleHour();
        Checks.say(x, text);
        return x;
    }

    private static void done(CradleHour x, String text) {
        Checks.write(x, text);
        x.done();
    }

    private static void judged(CradleHour x, String text, int act, int why) {
        Checks.write(x, text);
        due("judge(0) of " + text, x.judge(0), act);
        due("judge(1) of " + text, x.judge(1), why);
        due("judge(2) of " + text + ", refused or not", x.judge(2) == STATE ? 1 : 0, act == NONE ? 0 : 1);
    }

    private static void can(CradleHour x, String text) {
        judged(x, text, NONE, NONE);
    }

    private static CradleHour allNicks() {
        CradleHour x = new CradleHour();
        for (int p = 0; p < 40; p++) {
            x.cradle(p, 1, 1, -1);
        }
        return x;
    }

    // ---- 1 cradles, heirs

    private static void beatsAtFirst() {
        CradleHour x = new CradleHour();
        int[][] beats = {{0, 1}, {7, 8}, {8, 9}, {9, 1}, {17, 9}, {18, 1}, {26, 9}, {27, 1}, {35, 9}, {36, 1}, {39, 4}};
        for (int[] pair : beats) {
            due("BEAT at first, " + pair[0], x.told(100 + pair[0]), pair[1]);
        }
    }

    private static void faultOfEachFirstSign() {
        for (char sign = 33; sign <= 126; sign++) {
            int want = sign == '.' ? NONE : sign >= 'A' && sign <= 'F' ? 1 : 0;
            due("fault() of " + sign, written("" + sign).fault(), want);
            int behind = want == NONE ? NONE : want + 2;
            due("fault() of A?" + sign, written("A?" + sign).fault(), behind);
            due("fault() of B>1" + sign, written("B>1" + sign).fault(), want == NONE ? NONE : want + 3);
        }
    }

    private static void faultOfEachSecondSign() {
        for (char sign = 33; sign <= 126; sign++) {
            boolean whole = "?*~!123456789".indexOf(sign) >= 0;
            boolean half = sign == '>' || sign == '<';
            for (char letter : HEIRS.toCharArray()) {
                due("fault() of " + letter + sign, written("" + letter + sign).fault(), whole ? NONE : half ? 2 : 1);
            }
        }
    }

    private static void faultOfEachThirdSign() {
        for (char sign = 33; sign <= 126; sign++) {
            boolean digit = sign >= '1' && sign <= '9';
            due("fault() of A>" + sign, written("A>" + sign).fault(), digit ? NONE : 2);
            due("fault() of F<" + sign, written("F<" + sign).fault(), digit ? NONE : 2);
        }
    }

    private static void faultOfTheEmptyPad() {
        CradleHour x = new CradleHour();
        due("fault() of nothing", x.fault(), NONE);
        Checks.say(x, "x");
        x.wipe();
        due("fault() of nothing, wiped", x.fault(), NONE);
        done(x, "A*");
        due("fault() of nothing, DONE", x.fault(), NONE);
    }

    private static void faultIfMoreMustCome() {
        due("fault() of .A", written(".A").fault(), 2);
        due("fault() of .A<", written(".A<").fault(), 3);
        due("fault() of .A<9", written(".A<9").fault(), NONE);
        due("fault() of .A<9F", written(".A<9F").fault(), 5);
        due("fault() of x: the first sign, not the number", written("xA>").fault(), 0);
        due("fault() of .x.x: the first of two", written(".x.x").fault(), 1);
    }

    private static void faultOfTheFullPad() {
        String most = ".".repeat(59);
        due("fault(), 60 signs", written(most + ".").fault(), NONE);
        due("fault(), the last of 60 can not stand", written(most + "?").fault(), 59);
        due("fault(), the first of 60 can not stand", written("?" + most).fault(), 0);
        CradleHour x = written(most + "A");
        due("fault(), more than 60 must come", x.fault(), 60);
        due("say(63): it can not come", x.say('?'), FULL);
        due("fault(), still", x.fault(), 60);
        due("judge(0)", x.judge(0), NO);
        due("done()", x.done(), NO);
        due("wipe()", x.wipe(), 60);
        due("fault(), wiped", x.fault(), NONE);
        due("fault(), 60 signs, >", written(".".repeat(58) + "A>").fault(), 60);
        due("fault(), 60 signs, >1", written(".".repeat(57) + "A>1").fault(), NONE);
        due("done() of 20 ACTS of 3 signs", written("A>1A<1".repeat(10)).done(), 20);
    }

    private static void signThatCanNotStandIsSaid() {
        CradleHour x = new CradleHour();
        due("say(x)", x.say('x'), 1);
        due("fault()", x.fault(), 0);
        due("told(0)", x.told(0), 1);
        Checks.write(x, "A?");
        due("fault()", x.fault(), NONE);
        x.say('A');
        due("fault() behind A", x.fault(), 3);
        x.say('?');
        due("fault() behind A?", x.fault(), NONE);
    }

    private static void padHoldsSixty() {
        CradleHour x = new CradleHour();
        for (int n = 1; n <= 60; n++) {
            due("say, sign " + n, x.say(n % 2 == 1 ? 'A' : '*'), n);
        }
        due("say, sign 61", x.say('.'), FULL);
        due("told(0)", x.told(0), 60);
        due("house(2): the NICK was cut 30 times", x.house(2), 0);
        due("done()", x.done(), 30);
        due("say, the first again", x.say('.'), 1);
    }

    private static void goesOnToTheLastPlace() {
        CradleHour x = new CradleHour();
        for (int k = 1; k <= 9; k++) {
            x.heir(0, 39 - k, 5);
            can(x, "A>" + k);
            due("behind(0, 0), 39 by " + k, x.behind(0, 0), 39);
            x.heir(0, 40 - k, 5);
            judged(x, "A>" + k, 0, 2);
            x.heir(0, 39, 5);
            judged(x, "A>" + k, 0, 2);
        }
    }

    private static void goesBackToTheFirstPlace() {
        CradleHour x = new CradleHour();
        for (int k = 1; k <= 9; k++) {
            x.heir(5, k, 5);
            can(x, "F<" + k);
            due("behind(5, 0), 0 by " + k, x.behind(5, 0), 0);
            x.heir(5, k - 1, 5);
            judged(x, "F<" + k, 0, 2);
            x.heir(5, 0, 5);
            judged(x, "F<" + k, 0, 2);
        }
    }

    private static void listensUpToNinetyNine() {
        CradleHour x = new CradleHour();
        x.heir(2, 4, 5);
        for (int k = 0; k < 3; k++) {
            done(x, "C?".repeat(30));
        }
        done(x, "C?".repeat(8));
        due("told(32), 98 times", x.told(32), 98);
        Checks.say(x, "C?");
        due("behind(2, 1), once more", x.behind(2, 1), 99);
        Checks.say(x, "C?C?");
        due("behind(2, 1), 99 at most", x.behind(2, 1), 99);
        due("judge(2) counts each time", x.judge(2), 3);
        due("done()", x.done(), 3);
        due("told(32), 99 at most", x.told(32), 99);
        Checks.say(x, "C?");
        due("judge(2) at 99", x.judge(2), 1);
        due("judge(0) at 99: it can be", x.judge(0), NONE);
        x.done();
        due("told(32), still", x.told(32), 99);
        x.heir(2, 4, 5);
        due("told(32), HEIR set anew", x.told(32), 0);
    }

    private static void hearsOnlyWhatHeHasKept() {
        CradleHour x = new CradleHour();
        for (int kept = 1; kept <= 9; kept++) {
            for (int beat = 1; beat <= 9; beat++) {
                x.heir(0, beat - 1, kept);
                Checks.write(x, "A?");
                due("KEPT " + kept + ", BEAT " + beat, x.judge(2), kept == beat ? 1 : 0);
            }
        }
    }

    private static void hearsOnlyWhenHeListens() {
        CradleHour x = new CradleHour();
        x.heir(0, 4, 5);
        done(x, "A>9A<9A*A*A~A~A1A5.A!");
        due("told(30): HEARD without listening", x.told(30), 0);
        due("told(40)", x.told(40), 4);
        due("told(3): one minute", x.told(3), 1);
    }

    private static void nickIsCutOrGone() {
        CradleHour x = new CradleHour();
        x.heir(1, 39, 5);
        Checks.say(x, "A*B*");
        due("cut at both ends", x.stands(0, 1) * 10 + x.stands(39, 1), 11);
        due("NICKS", x.house(2), 2);
        x.done();
        Checks.say(x, "A*");
        due("gone", x.stands(0, 1), 0);
        due("the other stays", x.stands(39, 1), 1);
        Checks.say(x, "C*");
        due("cut again", x.stands(0, 1), 1);
    }

    private static void beatItHasAlready() {
        for (int has = 1; has <= 9; has++) {
            CradleHour x = new CradleHour();
            x.cradle(0, has, 0, -1);
            for (int beat = 1; beat <= 9; beat++) {
                if (beat == has) {
                    judged(x, "A" + beat, 0, 3);
                } else {
                    can(x, "A" + beat);
                    due("stands(0, 0)", x.stands(0, 0), beat);
                }
            }
        }
        CradleHour x = new CradleHour();
        judged(x, "A4B4", 1, 3);
        can(x, "A4B5C4A1");
    }

    private static void changesUpToTheLastPlace() {
        CradleHour x = new CradleHour();
        for (int p = 0; p < 39; p++) {
            x.heir(0, p, 5);
            Checks.write(x, "A~");
            due("judge(0), ~ at " + p, x.judge(0), NONE);
            due("stands(" + p + ", 0)", x.stands(p, 0), (p + 1) % 9 + 1);
            due("stands(" + (p + 1) + ", 0)", x.stands(p + 1, 0), p % 9 + 1);
        }
        x.heir(0, 39, 5);
        judged(x, "A~", 0, 2);
        judged(x, "A<1A~A>1A~", 3, 2);
    }

    private static void changesAllOfTheCradle() {
        CradleHour x = new CradleHour();
        x.cradle(39, 9, 1, 5);
        x.heir(0, 38, 5);
        done(x, "A~");
        due("at 38: BEAT, NICK, whose", x.told(138) * 100 + x.told(238) * 10 + x.told(338), 915);
        due("at 39: BEAT, NICK", x.told(139) * 10 + x.told(239), 30);
        due("at 39: whose", x.told(339), NONE);
        due("he stays", x.told(10), 38);
    }

    private static void chosenByAnother() {
        for (int a = 0; a < 6; a++) {
            for (int b = 0; b < 6; b++) {
                if (a != b) {
                    judged(new CradleHour(), HEIRS.charAt(a) + "!" + HEIRS.charAt(b) + "!", 1, 4);
                }
            }
        }
        CradleHour x = new CradleHour();
        x.heir(0, 39, 5);
        x.heir(1, 38, 5);
        can(x, "A!B!");
        judged(x, "A!B>1B!", 2, 4);
        done(x, "A!");
        judged(x, "B>1B!", 1, 4);
        x.heir(0, 39, 5);
        can(x, "B>1B!");
    }

    private static void chosenBySelf() {
        CradleHour x = new CradleHour();
        judged(x, "A!A!", 1, 1);
        done(x, "A!");
        judged(x, "A!", 0, 1);
        x.heir(0, 0, 5);
        can(x, "A!");
    }

    private static void chosenIsThePlace() {
        CradleHour x = new CradleHour();
        x.cradle(0, 1, 0, 0);
        Checks.say(x, "A!B~");
        due("behind(0, 2): the PLACE, not the CRADLE", x.behind(0, 2), 0);
        due("house(1): it is gone on", x.house(1), 0);
        Checks.say(x, "B>1B!");
        due("judge(0): his CRADLE's new PLACE is free", x.judge(0), NONE);
        Checks.write(x, "A!B~C!");
        due("judge(1): the old one is CHOSEN", x.judge(1), 4);
    }

    private static void hasChosenAllButMinutes() {
        String[] deeds = {">1", ">9", "<1", "<9", "?", "*", "1", "9", "~", "!"};
        for (char letter : HEIRS.toCharArray()) {
            CradleHour x = new CradleHour();
            x.heir(letter - 'A', 20, 3);
            done(x, letter + "!");
            for (String deed : deeds) {
                judged(x, "." + letter + deed, 1, 1);
            }
            can(x, "..");
        }
    }

    private static void leastReason() {
        CradleHour x = new CradleHour();
        judged(x, "A!A<1", 1, 1);
        judged(x, "A!A1", 1, 1);
        x.heir(0, 39, 5);
        judged(x, "A!A>1", 1, 1);
        judged(x, "A!A~", 1, 1);
        judged(x, "A!A4", 1, 1);
        judged(x, "A!A!", 1, 1);
    }

    // ---- minutes

    private static void minuteAtTheLastPlace() {
        CradleHour x = allNicks();
        x.heir(0, 39, 1);
        x.heir(1, 38, 1);
        x.heir(2, 37, 1);
        Checks.say(x, ".");
        due("at 39: there is no next PLACE", x.behind(0, 0), 39);
        due("at 38", x.behind(1, 0), 39);
        due("at 37", x.behind(2, 0), 38);
        Checks.say(x, "...");
        due("at 39, later", x.behind(2, 0), 39);
        due("house(3): minutes pass all the same", x.house(3), 4);
    }

    private static void minuteMovesOncePerMinute() {
        CradleHour x = new CradleHour();
        x.cradle(0, 1, 1, -1);
        x.cradle(1, 1, 1, -1);
        Checks.say(x, ".");
        for (int h = 0; h < 6; h++) {
            due("HEIR " + h + ", a minute", x.behind(h, 0), 1);
        }
        Checks.say(x, "..");
        due("there is no NICK at 2", x.behind(5, 0), 2);
        Checks.say(x, "A<2A*.");
        due("the NICK at 0 is gone", x.behind(0, 0), 0);
        Checks.say(x, "A*.A<1");
        due("a NICK is cut at 0", x.behind(0, 0), 0);
    }

    private static void minuteLeavesWhoHasChosen() {
        CradleHour x = allNicks();
        Checks.say(x, "A!..");
        due("CHOSEN", x.behind(0, 0), 0);
        due("not CHOSEN", x.behind(1, 0), 2);
        x.done();
        due("CHOSEN, DONE", x.told(10), 0);
        x.heir(0, 0, 1);
        Checks.say(x, ".");
        due("CHOSEN no more", x.behind(0, 0), 1);
    }

    private static void minuteSixty() {
        CradleHour x = written(".".repeat(60));
        due("house(3), 60 minutes", x.house(3), 60);
        due("judge(0), 60 minutes", x.judge(0), NONE);
        x.wipe();
        done(x, ".");
        Checks.say(x, ".".repeat(60));
        due("judge(0): the 61st can not be", x.judge(0), 59);
        due("judge(1)", x.judge(1), 5);
        due("done()", x.done(), STATE);
        due("told(3)", x.told(3), 1);
        done(x, ".".repeat(58));
        due("told(3), 59", x.told(3), 59);
        can(x, ".");
        judged(x, "..", 1, 5);
        done(x, ".");
        due("told(3), 60", x.told(3), 60);
        judged(x, ".", 0, 5);
        can(x, "A>1A?A*A9A~A!");
        judged(x, "A>1A?A*A9A~A!.", 6, 5);
    }

    private static void minuteIsLeftByCradleAndHeir() {
        CradleHour x = written(".".repeat(60));
        x.done();
        x.cradle(0, 9, 1, 0);
        x.heir(0, 0, 9);
        due("told(3)", x.told(3), 60);
        judged(x, ".", 0, 5);
    }

    // ---- 2 hours

    private static void firstActThatCanNotBe() {
        CradleHour x = new CradleHour();
        judged(x, "A<1A<1", 0, 2);
        judged(x, ".A<1A1", 1, 2);
        judged(x, "A1A<1", 0, 3);
        judged(x, "A?".repeat(29) + "A1", 29, 3);
        judged(x, ".".repeat(58) + "A1", 58, 3);
        due("behind: STATE", x.behind(0, 0), STATE);
    }

    private static void emptyPadIsJudged() {
        CradleHour x = new CradleHour();
        x.heir(0, 39, 4);
        done(x, "A?A!");
        due("judge(0)", x.judge(0), NONE);
        due("judge(1)", x.judge(1), NONE);
        due("judge(2): in the text", x.judge(2), 0);
        due("behind(0, 0)", x.behind(0, 0), 39);
        due("behind(0, 1)", x.behind(0, 1), 1);
        due("behind(0, 2)", x.behind(0, 2), 39);
        due("house(0)", x.house(0), 1);
        due("wrong(0): in the text", x.wrong(0), NONE);
        due("wrong(1)", x.wrong(1), NONE);
        due("done()", x.done(), 0);
        due("told(40)", x.told(40), 39);
    }

    private static void rightBehindTheText() {
        CradleHour x = new CradleHour();
        x.cradle(39, 1, 0, 3);
        x.heir(3, 39, 1);
        x.heir(0, 38, 1);
        Checks.say(x, "D!");
        due("house(1)", x.house(1), 8);
        Checks.say(x, "A~");
        due("house(1), changed", x.house(1), 0);
        Checks.say(x, "A~");
        due("house(1), changed again", x.house(1), 8);
        x.done();
        x.cradle(39, 1, 0, -1);
        due("house(1), nobody's", x.house(1), 0);
        due("house(0)", x.house(0), 8);
    }

    private static void wrongIsTheFirst() {
        CradleHour x = new CradleHour();
        Checks.say(x, "F!E>1E!");
        due("wrong(0), the first of two", x.wrong(0), 0);
        due("wrong(1)", x.wrong(1), 5);
        x.cradle(0, 1, 0, 5);
        due("wrong(0), the second one", x.wrong(0), 2);
        due("wrong(1)", x.wrong(1), 4);
        Checks.write(x, ".".repeat(58) + "A!");
        due("wrong(0), the last ACT that can be", x.wrong(0), 58);
    }

    private static void doneEmptiesThePad() {
        CradleHour x = written(".".repeat(60));
        due("done(), 60 ACTS", x.done(), 60);
        due("told(0)", x.told(0), 0);
        due("done(), again", x.done(), 0);
        due("told(3)", x.told(3), 60);
        Checks.say(x, "A");
        due("done(), FAULT", x.done(), NO);
        due("told(0), the sign stays", x.told(0), 1);
    }

    private static void heirForgetsAndIsFree() {
        CradleHour x = new CradleHour();
        x.heir(0, 4, 5);
        done(x, "A?A!");
        due("told(1)", x.told(1), 1);
        due("heir(0, 4, 5): as he is", x.heir(0, 4, 5), 4);
        due("told(1)", x.told(1), 0);
        due("told(30)", x.told(30), 0);
        due("told(40)", x.told(40), NONE);
    }

    // ---- 3 seeking, mixing, rising

    private static void seekEqualChances() {
        CradleHour x = new CradleHour();
        due("looks(369, 123, 3): all alike, the least", x.looks(369, 123, 3), 0);
        due("looks(169, 123, 3): the second and third alike", x.looks(169, 123, 3), 1);
        due("looks(98, 98, 2): 9 by 9 and 8 by 8", x.looks(98, 98, 2), 0);
        due("looks(89, 78, 2): 8 by 7 is more than 9 by 8", x.looks(89, 78, 2), 0);
        due("looks(98, 87, 2)", x.looks(98, 87, 2), 1);
        due("seek(999999999, 111111111, 9, 0)", x.seek(999999999, 111111111, 9, 0), 5);
        due("seek(999999999, 111111111, 9, 1)", x.seek(999999999, 111111111, 9, 1), 1);
        // The last one is looked into, too: one alone takes its minutes.
        due("seek(5, 9, 1, 0)", x.seek(5, 9, 1, 0), 9);
        due("seek(5, 9, 1, 1)", x.seek(5, 9, 1, 1), 1);
    }

    private static void mixComesRound() {
        CradleHour x = new CradleHour();
        int[][] rounds = {{2, 1}, {4, 2}, {6, 4}, {8, 3}, {10, 6}, {16, 4}, {52, 8}, {64, 6}, {512, 9}, {998, 332}};
        for (int[] pair : rounds) {
            int n = pair[0], round = pair[1];
            due("mix(" + n + ", 0, 0, 1)", x.mix(n, 0, 0, 1), round);
            due("mix(" + n + ", 1, round, 0)", x.mix(n, 1, round, 0), 1);
            due("mix(" + n + ", 1, round and 1, 0)", x.mix(n, 1, round + 1, 0), n == 2 ? 1 : 2);
            due("mix(" + n + ", 1, round less 1, 0)", x.mix(n, 1, round - 1, 0), n == 2 ? 1 : n / 2);
        }
    }

    private static void risesAtTheEnds() {
        CradleHour x = new CradleHour();
        due("rises(39, 0): one alone", x.rises(39, 0), 1);
        due("rises(39, 1)", x.rises(39, 1), 39);
        for (int p = 31; p < 40; p++) {
            x.cradle(p, 40 - p, 0, -1);
        }
        due("rises(31, 0): they only fall", x.rises(31, 0), 1);
        due("rises(31, 1): the least", x.rises(31, 1), 31);
        x.cradle(39, 2, 0, -1);
        due("rises(31, 0): 2 and 2", x.rises(31, 0), 2);
        due("rises(31, 1)", x.rises(31, 1), 38);
        x.cradle(31, 1, 0, -1);
        due("rises(31, 0): 1, 2 and 2", x.rises(31, 0), 3);
        due("rises(31, 1)", x.rises(31, 1), 31);
        due("rises(32, 1): from PLACE 32 on", x.rises(32, 1), 38);
    }

    private static void risesOfTheEndsOfBeats() {
        for (int beat = 1; beat <= 9; beat += 8) {
            CradleHour x = new CradleHour();
            for (int p = 0; p < 40; p++) {
                x.cradle(p, beat, 0, -1);
            }
            due("rises(0, 0), all " + beat, x.rises(0, 0), 40);
            due("rises(0, 1), all " + beat, x.rises(0, 1), 0);
            x.cradle(0, 10 - beat, 0, -1);
            due("rises(0, 0), the first one " + (10 - beat), x.rises(0, 0), beat == 9 ? 40 : 39);
            due("rises(0, 1)", x.rises(0, 1), beat == 9 ? 0 : 1);
        }
    }

    private static void risesIsOfNow() {
        CradleHour x = new CradleHour();
        x.heir(0, 38, 5);
        due("rises(38, 0)", x.rises(38, 0), 2);
        Checks.say(x, "A~");
        due("rises(38, 0), said", x.rises(38, 0), 2);
        x.done();
        due("rises(38, 0), DONE", x.rises(38, 0), 1);
        due("rises(38, 1), DONE", x.rises(38, 1), 38);
    }

    // ---- 4 his own, taking, passing by

    private static void sightsEightAtMost() {
        CradleHour x = new CradleHour();
        for (int k = 1; k <= 8; k++) {
            due("like, SIGHT " + k, x.like(k, 0, false), k);
            due("told(4)", x.told(4), k);
        }
        due("own(-1): BEAT 9 alone", x.own(-1), 4);
        due("like, SIGHT 9", x.like(9, 0, false), FULL);
        due("own(-1), still", x.own(-1), 4);
        due("forget()", x.forget(), 8);
        due("own(-1), forgotten", x.own(-1), 40);
        due("like, again", x.like(9, 0, false), 1);
        due("own(-1), the old ones are gone", x.own(-1), 36);
    }

    private static void sightsThatNothingFits() {
        CradleHour x = new CradleHour();
        x.like(5, 8, false);
        due("own(-1)", x.own(-1), 0);
        due("own(0)", x.own(0), NONE);
        due("ask(0)", x.ask(0), NONE);
        due("ask(1)", x.ask(1), NONE);
        x.forget();
        x.like(3, 0, true);
        for (int p = 2; p < 40; p += 9) {
            due("own(-1), some fit", x.own(-1) > 0 ? 1 : 0, 1);
            x.cradle(p, 4, 0, -1);
        }
        due("own(-1), no such BEAT now", x.own(-1), 0);
        due("ask(0), no such BEAT now", x.ask(0), NONE);
    }

    private static void askOfOne() {
        CradleHour x = new CradleHour();
        x.like(5, 0, true);
        for (int p = 13; p < 40; p += 9) {
            x.cradle(p, 1, 0, -1);
        }
        due("own(-1)", x.own(-1), 1);
        due("own(0)", x.own(0), 4);
        due("ask(0): nothing tells more, the least", x.ask(0), 10);
        due("ask(1)", x.ask(1), 1);
        x.cradle(39, 5, 0, -1);
        due("ask(0), two alike", x.ask(0), 10);
        due("ask(1), two alike", x.ask(1), 2);
    }

    private static void askOfTheHighestBeats() {
        CradleHour x = new CradleHour();
        for (int p = 0; p < 40; p++) {
            x.cradle(p, p < 10 ? 7 : p < 30 ? 8 : 9, 0, -1);
        }
        due("ask(0): whether it is 8", x.ask(0), 80);
        due("ask(1)", x.ask(1), 20);
        for (int p = 0; p < 40; p++) {
            x.cradle(p, p < 10 ? 1 : p < 30 ? 5 : 9, 0, -1);
        }
        due("ask(0): whether it is 3 to 5", x.ask(0), 41);
        due("ask(1)", x.ask(1), 20);
    }

    private static void passTies() {
        CradleHour x = new CradleHour();
        for (int r = 0; r <= 1; r++) {
            due("pass(2, " + r + ", 0)", x.pass(2, r, 0), 1);
            due("pass(2, " + r + ", 1)", x.pass(2, r, 1), 2);
        }
        due("passes(2): of equals the least", x.passes(2), 0);
        due("passes(1): there is only 0", x.passes(1), 0);
        due("pass(4, 1, 0)", x.pass(4, 1, 0), 11);
        due("pass(4, 2, 0)", x.pass(4, 2, 0), 5);
        due("pass(4, 2, 1)", x.pass(4, 2, 1), 12);
    }

    /** HEIR A stands at a PLACE, and this is where he stands behind one draw. */
    private static void hourMoves(int seed, int from, int to) {
        CradleHour x = new CradleHour();
        x.heir(0, from, 5);
        due("hour(" + seed + ", 1, 0) from " + from, x.hour(seed, 1, 0), to);
        done(x, "A!");
        due("hour(" + seed + ", 1, 0) from " + from + ", CHOSEN", x.hour(seed, 1, 0), from);
    }

    private static void hourGoes() {
        // HEIR A goes on 1 (965 and 919), on 9 (901 and 999), back 1 (873), back 9 (953).
        for (int seed : new int[] {965, 919}) {
            hourMoves(seed, 0, 1);
            hourMoves(seed, 38, 39);
            hourMoves(seed, 39, 39);
        }
        for (int seed : new int[] {901, 999}) {
            hourMoves(seed, 0, 9);
            hourMoves(seed, 30, 39);
            hourMoves(seed, 31, 31);
            hourMoves(seed, 39, 39);
        }
        hourMoves(873, 39, 38);
        hourMoves(873, 1, 0);
        hourMoves(873, 0, 0);
        hourMoves(953, 39, 30);
        hourMoves(953, 9, 0);
        hourMoves(953, 8, 8);
        hourMoves(953, 0, 0);
        // He listens (875), a BEAT of 1 (879) that it has already, at 0 and at 9: he stays.
        hourMoves(875, 4, 4);
        hourMoves(879, 0, 0);
        hourMoves(879, 9, 9);
    }

    private static void hourNicks() {
        // A NICK of HEIR A.
        CradleHour x = new CradleHour();
        x.heir(0, 39, 5);
        due("hour(877, 1, 1): cut", x.hour(877, 1, 1), 1);
        x.cradle(39, 1, 1, -1);
        due("hour(877, 1, 1): gone", x.hour(877, 1, 1), 0);
        done(x, "A!");
        due("hour(877, 1, 1): he has CHOSEN", x.hour(877, 1, 1), 1);
        due("hour(877, 1, 1), all but one", allNicks().hour(877, 1, 1), 39);
    }

    private static void hourChooses() {
        // HEIR A chooses (899), HEIR F does (15); a minute of HEIR A, z being 1 and 7 by 8 (915, 883).
        CradleHour x = new CradleHour();
        due("hour(899, 1, 2)", x.hour(899, 1, 2), 1);
        due("hour(15, 1, 2)", x.hour(15, 1, 2), 32);
        due("hour(915, 1, 2): a minute", x.hour(915, 1, 2), 0);
        due("hour(883, 1, 2): a minute", x.hour(883, 1, 2), 0);
        done(x, "B!");
        due("hour(899, 1, 2): another has CHOSEN that PLACE", x.hour(899, 1, 2), 2);
        x.heir(0, 1, 5);
        due("hour(899, 1, 2): the next PLACE", x.hour(899, 1, 2), 3);
        done(x, "A!");
        due("hour(899, 1, 2): he has CHOSEN", x.hour(899, 1, 2), 3);
        // HEIR E, then HEIR F chooses (7236).
        CradleHour y = new CradleHour();
        due("hour(7236, 2, 2): E was there first", y.hour(7236, 2, 2), 16);
        y.heir(5, 1, 5);
        due("hour(7236, 2, 2): at two PLACES", y.hour(7236, 2, 2), 48);
    }

    private static void hourMinutes() {
        // A minute of HEIR A, z being 1 to 7 by 8; a minute of HEIR B (1753); two minutes (54).
        int[] minutes = {915, 931, 947, 963, 979, 995, 883, 1753};
        for (int seed : minutes) {
            CradleHour x = allNicks();
            due("hour(" + seed + ", 1, 0), a minute", x.hour(seed, 1, 0), 1);
            x.heir(0, 39, 5);
            due("hour(" + seed + ", 1, 0), a minute at 39", x.hour(seed, 1, 0), 39);
            due("hour(" + seed + ", 1, 0), no NICK", new CradleHour().hour(seed, 1, 0), 0);
        }
        CradleHour x = allNicks();
        done(x, "B!");
        due("hour(1753, 1, 0): of all, though B has CHOSEN", x.hour(1753, 1, 0), 1);
        done(x, ".".repeat(58));
        x.heir(0, 0, 5);
        due("hour(54, 2, 0) at minute 58", x.hour(54, 2, 0), 2);
        done(x, ".");
        x.heir(0, 0, 5);
        due("hour(54, 2, 0) at minute 59: one minute more", x.hour(54, 2, 0), 1);
        done(x, ".");
        x.heir(0, 0, 5);
        due("hour(54, 2, 0) at minute 60: none", x.hour(54, 2, 0), 0);
        x.heir(0, 1, 5);
        due("hour(899, 1, 2) at minute 60: all else can be", x.hour(899, 1, 2), 3);
    }

    private static void hourChanges() {
        // HEIR A changes CRADLES, then a minute (977).
        CradleHour x = new CradleHour();
        x.cradle(39, 1, 1, -1);
        x.heir(0, 38, 5);
        due("hour(977, 1, 0)", x.hour(977, 1, 0), 38);
        due("hour(977, 2, 0): the NICK came to 38", x.hour(977, 2, 0), 39);
        due("hour(977, 2, 1)", x.hour(977, 2, 1), 1);
        x.cradle(39, 1, 0, -1);
        x.cradle(38, 1, 1, -1);
        due("hour(977, 2, 0): the NICK went to 39", x.hour(977, 2, 0), 38);
        x.heir(0, 39, 5);
        due("hour(977, 2, 0): there is no next one", x.hour(977, 2, 0), 39);
    }

    private static void hourDoesNothing() {
        CradleHour x = written("A?");
        for (int what = 0; what <= 2; what++) {
            x.hour(5, 99, what);
        }
        for (int what = 1; what <= 4; what++) {
            due("told(" + what + ")", x.told(what), 0);
        }
        due("told(0)", x.told(0), 2);
        for (int h = 0; h < 6; h++) {
            due("where " + h, x.told(10 + h), 0);
            due("HEARD " + h, x.told(30 + h), 0);
        }
        for (int p = 0; p < 40; p++) {
            due("BEAT at " + p, x.told(100 + p), p % 9 + 1);
            due("NICK at " + p, x.told(200 + p), 0);
        }
        int first = x.hour(5, 99, 1);
        due("hour(5, 99, 1), again", x.hour(5, 99, 1), first);
    }

    // ---- images

    private static void imageHoldsAllButThePad() {
        CradleHour x = written(".".repeat(60));
        x.done();
        x.heir(0, 39, 4);
        done(x, "A?A*A!");
        for (int k = 0; k < 8; k++) {
            x.like(4, 0, true);
        }
        due("image(0)", x.image(0), 1);
        Checks.say(x, "A".repeat(60));
        x.forget();
        x.heir(0, 0, 1);
        x.cradle(39, 1, 0, 2);
        due("restore(0)", x.restore(0), 1);
        due("the PAD, full as it is", x.told(0), 60);
        due("say, full as it is", x.say('A'), FULL);
        due("the minute", x.told(3), 60);
        due("SIGHTS, full as they were", x.like(4, 0, true), FULL);
        due("own(-1)", x.own(-1), 5);
        due("where", x.told(10), 39);
        due("KEPT", x.told(20), 4);
        due("HEARD", x.told(30), 1);
        due("CHOSEN", x.told(40), 39);
        due("BEAT, NICK", x.told(139) * 10 + x.told(239), 41);
        due("whose", x.told(339), NONE);
    }

    private static void imageHoldsEachSight() {
        for (int count = 1; count <= 8; count++) {
            CradleHour x = new CradleHour();
            for (int k = 1; k <= count; k++) {
                x.like(k, 0, false);
            }
            x.image(1);
            int left = x.own(-1);
            due("own(-1), " + count + " SIGHTS", left, 40 - 4 * count - Math.min(count, 4));
            x.forget();
            for (int k = 1; k <= 8; k++) {
                x.like(9, 8, true);
            }
            due("own(-1), others", x.own(-1), 40);
            x.restore(1);
            due("own(-1), restored", x.own(-1), left);
            due("own(0), restored", x.own(0), count);
            due("told(4), restored", x.told(4), count);
        }
        CradleHour x = new CradleHour();
        x.like(5, 1, true);
        x.image(0);
        x.forget();
        x.like(5, 2, false);
        x.restore(0);
        due("own(-1): b, d and whether, BEATS 4 to 6", x.own(-1), 13);
        due("own(0)", x.own(0), 3);
        x.forget();
        x.like(5, 2, true);
        x.restore(0);
        due("own(-1): d", x.own(-1), 13);
    }

    private static void imageIsKeptAnew() {
        CradleHour x = new CradleHour();
        x.image(0);
        done(x, ".");
        x.like(1, 0, true);
        x.restore(0);
        due("the minute, at first", x.told(3), 0);
        due("SIGHTS, at first", x.told(4), 0);
        done(x, "...");
        x.like(1, 0, true);
        due("image(0), anew", x.image(0), 1);
        done(x, ".");
        x.forget();
        due("restore(0)", x.restore(0), 1);
        due("the minute", x.told(3), 3);
        due("SIGHTS", x.told(4), 1);
        due("restore(0), again", x.restore(0), 1);
        due("the minute, again", x.told(3), 3);
    }

    private static void imagesAreTwo() {
        CradleHour x = new CradleHour();
        x.image(0);
        due("restore(1): only 0 was kept", x.restore(1), STATE);
        x.cradle(0, 9, 0, -1);
        x.image(1);
        x.cradle(0, 5, 0, -1);
        due("restore(0)", x.restore(0), 1);
        due("BEAT", x.told(100), 1);
        due("restore(1)", x.restore(1), 1);
        due("BEAT", x.told(100), 9);
        due("restore(0): it is still kept", x.restore(0), 1);
        due("BEAT", x.told(100), 1);
    }

    /** An object is used for 512 calls: the last of them is as due, too. */
    private static void theLastCall() {
        CradleHour x = new CradleHour();
        for (int k = 0; k < 8; k++) {
            Checks.say(x, ".".repeat(60));
            due("done(), " + k, x.done(), k == 0 ? 60 : STATE);
            due("wipe(), " + k, x.wipe(), k == 0 ? 0 : 60);
        }
        for (int k = 0; k < 15; k++) {
            due("told(3), call " + (497 + k), x.told(3), 60);
        }
        due("image(1), the 512th", x.image(1), 1);
    }
}
