/**
 * The last numbers that are as told, on both sides, of every call: they are not refused, and do what the document says.
 * (The first numbers that are not as told are in RefusalTest.)
 */
public final class BoundsTest {
    private static final Checks C = new Checks("BoundsTest");
    private static final int NONE = -6;

    public static void main(String[] args) {
        cradlePlaces();
        cradleBeats();
        cradleNicks();
        cradleHeirs();
        heirHeirs();
        heirPlaces();
        heirKept();
        sayCodes();
        judgeWhats();
        behindHeirsAndWhats();
        standsPlacesAndWhats();
        houseWhats();
        wrongWhats();
        seekRows();
        seekParts();
        looksRows();
        mixNumbers();
        mixPlaces();
        mixTimes();
        risesPlaces();
        likeBeats();
        likeSpans();
        ownPlaces();
        askWhats();
        takeNumbers();
        passNumbers();
        passesNumbers();
        hourSeeds();
        hourActs();
        imagesAndRestores();
        toldWhats();
        C.finish();
    }

    private static void due(String call, long got, long want) {
        C.due(call, got, want);
    }

    private static void cradlePlaces() {
        CradleHour x = new CradleHour();
        for (int p = 0; p < 40; p++) {
            int beat = 9 - p % 9;
            due("cradle(" + p + ", ..) had", x.cradle(p, beat, 1, p % 6), p % 9 + 1);
        }
        for (int p = 0; p < 40; p++) {
            due("BEAT at " + p, x.told(100 + p), 9 - p % 9);
            due("NICK at " + p, x.told(200 + p), 1);
            due("whose at " + p, x.told(300 + p), p % 6);
        }
        CradleHour one = new CradleHour();
        one.cradle(39, 9, 1, 5);
        due("cradle(39, ..): 38 is as it was", one.told(138) * 10 + one.told(238), 30);
        one.cradle(0, 9, 1, 5);
        due("cradle(0, ..): 1 is as it was", one.told(101) * 10 + one.told(201), 20);
        due("NICKS", one.told(2), 2);
    }

    private static void cradleBeats() {
        for (int p = 0; p < 40; p += 39) {
            CradleHour x = new CradleHour();
            int had = p % 9 + 1;
            for (int beat = 1; beat <= 9; beat++) {
                due("cradle(" + p + ", " + beat + ", 0, -1) had", x.cradle(p, beat, 0, -1), had);
                due("BEAT", x.told(100 + p), beat);
                had = beat;
            }
            due("cradle, the same BEAT again", x.cradle(p, 9, 0, -1), 9);
        }
    }

    private static void cradleNicks() {
        CradleHour x = new CradleHour();
        int[] nicks = {0, 1, 1, 0, 0};
        for (int nick : nicks) {
            x.cradle(17, 9, nick, -1);
            due("NICK " + nick, x.told(217), nick);
            due("NICKS, NICK " + nick, x.told(2), nick);
        }
    }

    private static void cradleHeirs() {
        CradleHour x = new CradleHour();
        for (int h = 5; h >= 0; h--) {
            due("cradle(20, 3, 0, " + h + ")", x.cradle(20, 3, 0, h), 3);
            due("whose, " + h, x.told(320), h);
        }
        due("cradle(20, 3, 0, -1)", x.cradle(20, 3, 0, -1), 3);
        due("whose, nobody's", x.told(320), NONE);
        due("stands(20, 2), nobody's", x.stands(20, 2), NONE);
    }

    private static void heirHeirs() {
        CradleHour x = new CradleHour();
        for (int h = 0; h < 6; h++) {
            due("heir(" + h + ", ..)", x.heir(h, 30 + h, 1 + h), 0);
        }
        for (int h = 0; h < 6; h++) {
            due("where " + h, x.told(10 + h), 30 + h);
            due("KEPT " + h, x.told(20 + h), 1 + h);
        }
    }

    private static void heirPlaces() {
        CradleHour x = new CradleHour();
        int stood = 0;
        for (int p = 39; p >= 0; p--) {
            due("heir(5, " + p + ", 1)", x.heir(5, p, 1), stood);
            due("where", x.told(15), p);
            stood = p;
        }
        due("the others", x.told(10) + x.told(14), 0);
    }

    private static void heirKept() {
        CradleHour x = new CradleHour();
        for (int kept = 1; kept <= 9; kept++) {
            due("heir(0, 4, " + kept + ")", x.heir(0, 4, kept), kept == 1 ? 0 : 4);
            due("KEPT", x.told(20), kept);
        }
        due("the others", x.told(21), 5);
    }

    private static void sayCodes() {
        for (int sign = 33; sign <= 126; sign++) {
            CradleHour x = new CradleHour();
            due("say(" + sign + ")", x.say(sign), 1);
            due("told(0)", x.told(0), 1);
            due("wipe()", x.wipe(), 1);
        }
    }

    private static void judgeWhats() {
        CradleHour x = new CradleHour();
        x.heir(1, 4, 5);
        Checks.say(x, "B?A1");
        due("judge(0)", x.judge(0), 1);
        due("judge(1)", x.judge(1), 3);
        Checks.write(x, "B?B?");
        due("judge(0), none", x.judge(0), NONE);
        due("judge(1), none", x.judge(1), NONE);
        due("judge(2)", x.judge(2), 2);
        Checks.write(x, "A?");
        due("judge(2), the BEAT is another", x.judge(2), 0);
    }

    private static void behindHeirsAndWhats() {
        CradleHour x = new CradleHour();
        Checks.say(x, "A>4F>4A?F?F?F!");
        int[][] want = {{4, 1, NONE}, {0, 0, NONE}, {0, 0, NONE}, {0, 0, NONE}, {0, 0, NONE}, {4, 2, 4}};
        for (int h = 0; h < 6; h++) {
            for (int what = 0; what < 3; what++) {
                due("behind(" + h + ", " + what + ")", x.behind(h, what), want[h][what]);
            }
        }
    }

    private static void standsPlacesAndWhats() {
        CradleHour x = new CradleHour();
        x.cradle(39, 8, 1, 5);
        x.cradle(0, 7, 1, 0);
        for (int p = 0; p < 40; p++) {
            boolean end = p == 0 || p == 39;
            due("stands(" + p + ", 0)", x.stands(p, 0), p == 0 ? 7 : p == 39 ? 8 : p % 9 + 1);
            due("stands(" + p + ", 1)", x.stands(p, 1), end ? 1 : 0);
            due("stands(" + p + ", 2)", x.stands(p, 2), p == 0 ? 0 : p == 39 ? 5 : NONE);
        }
    }

    private static void houseWhats() {
        CradleHour x = new CradleHour();
        due("house(0), none", x.house(0), 0);
        due("house(1), none", x.house(1), 0);
        due("house(2), none", x.house(2), 0);
        due("house(3), at first", x.house(3), 0);
        for (int p = 0; p < 40; p++) {
            x.cradle(p, 1, 1, p % 6);
        }
        for (int h = 0; h < 6; h++) {
            x.heir(h, h, 1);
        }
        Checks.say(x, "A!B!C!D!E!F!" + ".".repeat(48));
        due("house(0), all", x.house(0), 63);
        due("house(1), all", x.house(1), 63);
        due("house(2), all", x.house(2), 40);
        due("house(3)", x.house(3), 48);
        x.done();
        Checks.say(x, ".".repeat(12));
        due("house(3), the last", x.house(3), 60);
        for (int h = 0; h < 6; h++) {
            CradleHour y = new CradleHour();
            y.cradle(0, 1, 0, h);
            Checks.say(y, (char) ('A' + h) + "!");
            due("house(0), HEIR " + h + " alone", y.house(0), 1 << h);
            due("house(1), HEIR " + h + " alone", y.house(1), 1 << h);
        }
    }

    private static void wrongWhats() {
        for (int h = 0; h < 6; h++) {
            CradleHour x = new CradleHour();
            x.cradle(0, 1, 0, (h + 1) % 6);
            Checks.say(x, "." + (char) ('A' + h) + "!");
            due("wrong(0), another's", x.wrong(0), 1);
            due("wrong(1), another's", x.wrong(1), h);
            x.cradle(0, 1, 0, -1);
            due("wrong(0), nobody's", x.wrong(0), 1);
            due("wrong(1), nobody's", x.wrong(1), h);
            x.cradle(0, 1, 0, h);
            due("wrong(0), his own", x.wrong(0), NONE);
            due("wrong(1), his own", x.wrong(1), NONE);
        }
    }

    /** A row of n like digits: n CRADLES, each as likely, each looked into for as long. */
    private static void seekRows() {
        for (int n = 1; n <= 9; n++) {
            CradleHour x = new CradleHour();
            for (int digit = 1; digit <= 9; digit++) {
                int row = Integer.parseInt(("" + digit).repeat(n));
                int nines = Integer.parseInt("9".repeat(n));
                int twice = digit * (n + 1);
                String call = "seek(" + nines + ", " + row + ", " + n;
                due(call + ", 0)", x.seek(nines, row, n, 0), twice % 2 == 0 ? twice / 2 : twice);
                due(call + ", 1)", x.seek(nines, row, n, 1), twice % 2 == 0 ? 1 : 2);
                due("seek(" + row + ", " + nines + ", " + n + ", 1)", x.seek(row, nines, n, 1), n % 2 == 0 ? 2 : 1);
            }
        }
    }

    private static void seekParts() {
        CradleHour x = new CradleHour();
        due("seek(1, 1, 1, 0)", x.seek(1, 1, 1, 0), 1);
        due("seek(1, 1, 1, 1)", x.seek(1, 1, 1, 1), 1);
        due("seek(19, 91, 2, 0)", x.seek(19, 91, 2, 0), 19);
        due("seek(19, 91, 2, 1)", x.seek(19, 91, 2, 1), 10);
        // 9 to 1, 9 minutes each: 9 * 9 + 1 * 18 over 10.
        due("seek(91, 99, 2, 0)", x.seek(91, 99, 2, 0), 99);
        due("seek(91, 99, 2, 1)", x.seek(91, 99, 2, 1), 10);
    }

    private static void looksRows() {
        CradleHour x = new CradleHour();
        for (int n = 1; n <= 9; n++) {
            for (int at = 0; at < n; at++) {
                StringBuilder odds = new StringBuilder("1".repeat(n));
                odds.setCharAt(at, '9');
                StringBuilder minutes = new StringBuilder("9".repeat(n));
                minutes.setCharAt(at, '1');
                int ones = Integer.parseInt("1".repeat(n));
                int nines = Integer.parseInt("9".repeat(n));
                due("looks(" + odds + ", " + nines + ")", x.looks(Integer.parseInt("" + odds), nines, n), at);
                due("looks(" + ones + ", " + minutes + ")", x.looks(ones, Integer.parseInt("" + minutes), n), at);
            }
            int nines = Integer.parseInt("9".repeat(n));
            due("looks, all alike, " + n, x.looks(nines, nines, n), 0);
        }
    }

    private static void mixNumbers() {
        for (int n = 2; n <= 998; n += 2) {
            CradleHour x = new CradleHour();
            due("mix(" + n + ", 0, 1, 0): the first one stays", x.mix(n, 0, 1, 0), 0);
            due("mix(" + n + ", last, 1, 0): the last one stays", x.mix(n, n - 1, 1, 0), n - 1);
            due("mix(" + n + ", half, 1, 0)", x.mix(n, n / 2, 1, 0), 1);
            due("mix(" + n + ", half less 1, 1, 0)", x.mix(n, n / 2 - 1, 1, 0), n - 2);
        }
    }

    private static void mixPlaces() {
        for (int n : new int[] {2, 4, 40, 200}) {
            CradleHour x = new CradleHour();
            int round = x.mix(n, n - 1, 999999999, 1);
            for (int i = 0; i < n; i++) {
                int next = i < n / 2 ? 2 * i : 2 * (i - n / 2) + 1;
                due("mix(" + n + ", " + i + ", 1, 0)", x.mix(n, i, 1, 0), next);
                due("mix(" + n + ", " + i + ", round, 0)", x.mix(n, i, round, 0), i);
            }
        }
    }

    private static void mixTimes() {
        CradleHour x = new CradleHour();
        due("mix(8, 1, 0, 0)", x.mix(8, 1, 0, 0), 1);
        due("mix(8, 1, 1, 0)", x.mix(8, 1, 1, 0), 2);
        due("mix(8, 1, 2, 0)", x.mix(8, 1, 2, 0), 4);
        due("mix(8, 1, 3, 0): as it was", x.mix(8, 1, 3, 0), 1);
        // 999999999 is 0 by 3, 999999998 is 2.
        due("mix(8, 1, 999999998, 0)", x.mix(8, 1, 999999998, 0), 4);
        due("mix(8, 1, 999999999, 0)", x.mix(8, 1, 999999999, 0), 1);
        due("mix(998, 0, 0, 1)", x.mix(998, 0, 0, 1), 332);
        due("mix(998, 997, 999999999, 1)", x.mix(998, 997, 999999999, 1), 332);
        due("mix(998, 996, 332, 0)", x.mix(998, 996, 332, 0), 996);
        due("mix(998, 996, 331, 0): 498 goes there", x.mix(998, 996, 331, 0), 498);
        due("mix(998, 996, 333, 0)", x.mix(998, 996, 333, 0), 995);
    }

    private static void risesPlaces() {
        CradleHour x = new CradleHour();
        for (int p = 0; p < 40; p++) {
            x.cradle(p, 5, 0, -1);
        }
        for (int p = 0; p < 40; p++) {
            due("rises(" + p + ", 0), all alike", x.rises(p, 0), 40 - p);
            due("rises(" + p + ", 1), all alike", x.rises(p, 1), p);
        }
    }

    private static void likeBeats() {
        for (int b = 1; b <= 9; b++) {
            CradleHour x = new CradleHour();
            due("like(" + b + ", 0, true)", x.like(b, 0, true), 1);
            due("own(-1)", x.own(-1), b <= 4 ? 5 : 4);
            due("own(0)", x.own(0), b - 1);
            CradleHour y = new CradleHour();
            due("like(" + b + ", 0, false)", y.like(b, 0, false), 1);
            due("own(-1)", y.own(-1), b <= 4 ? 35 : 36);
        }
    }

    private static void likeSpans() {
        for (int d = 0; d <= 8; d++) {
            CradleHour low = new CradleHour();
            due("like(1, " + d + ", true)", low.like(1, d, true), 1);
            due("own(-1): BEATS 1 to " + (1 + d), low.own(-1), 4 * (d + 1) + Math.min(d + 1, 4));
            CradleHour high = new CradleHour();
            due("like(9, " + d + ", true)", high.like(9, d, true), 1);
            due("own(-1): BEATS " + (9 - d) + " to 9", high.own(-1), 4 * (d + 1) + Math.max(0, d - 4));
            CradleHour not = new CradleHour();
            due("like(1, " + d + ", false)", not.like(1, d, false), 1);
            due("own(-1): BEATS above " + (1 + d), not.own(-1), 40 - 4 * (d + 1) - Math.min(d + 1, 4));
        }
    }

    private static void ownPlaces() {
        CradleHour x = new CradleHour();
        due("own(-1)", x.own(-1), 40);
        for (int i = 0; i < 40; i++) {
            due("own(" + i + ")", x.own(i), i);
        }
        int[] none = {-2, -3, -256, -65536, Integer.MIN_VALUE, 40, 41, 256, 65536, Integer.MAX_VALUE};
        for (int i : none) {
            due("own(" + i + ")", x.own(i), NONE);
        }
        x.like(4, 0, true);
        int[] places = {3, 12, 21, 30, 39};
        for (int i = 0; i < places.length; i++) {
            due("own(" + i + "), BEAT 4", x.own(i), places[i]);
        }
        due("own(5), BEAT 4", x.own(5), NONE);
    }

    private static void askWhats() {
        CradleHour x = new CradleHour();
        due("ask(0)", x.ask(0), 13);
        due("ask(1)", x.ask(1), 20);
        for (int p = 0; p < 40; p++) {
            x.cradle(p, p < 20 ? 8 : 9, 0, -1);
        }
        due("ask(0): whether it is 1 by 7 at the most", x.ask(0), 17);
        due("ask(1)", x.ask(1), 20);
        x.cradle(0, 9, 0, -1);
        due("ask(1), 19 and 21", x.ask(1), 21);
    }

    private static void takeNumbers() {
        CradleHour x = new CradleHour();
        due("take(1, 0): he can not", x.take(1, 0), 0);
        due("take(1, 1): he can not", x.take(1, 1), NONE);
        due("take(2, 0)", x.take(2, 0), 1);
        due("take(2, 1)", x.take(2, 1), 1);
        due("take(3, 0): 1 of 3 at the most", x.take(3, 0), 0);
        due("take(3, 1)", x.take(3, 1), NONE);
        due("take(999, 0)", x.take(999, 0), 1);
        due("take(999, 1)", x.take(999, 1), 488);
        int[] lost = {1, 3, 7, 15, 31, 63, 127, 255, 511};
        for (int n : lost) {
            due("take(" + n + ", 0)", x.take(n, 0), 0);
            due("take(" + n + ", 1)", x.take(n, 1), NONE);
            due("take(" + (n + 1) + ", 1): 1 is the least", x.take(n + 1, 1), 1);
            if (2 * n < 999) {
                due("take(" + 2 * n + ", 1): half, the most", x.take(2 * n, 1), n);
            }
        }
    }

    private static void passNumbers() {
        CradleHour x = new CradleHour();
        for (int n = 1; n <= 20; n++) {
            due("pass(" + n + ", 0, 0): the first one is taken", x.pass(n, 0, 0), 1);
            due("pass(" + n + ", 0, 1)", x.pass(n, 0, 1), n);
            due("pass(" + n + ", n less 1, 0): only the last one can be", x.pass(n, n - 1, 0), 1);
            due("pass(" + n + ", n less 1, 1)", x.pass(n, n - 1, 1), n);
        }
        due("pass(3, 1, 0)", x.pass(3, 1, 0), 1);
        due("pass(3, 1, 1)", x.pass(3, 1, 1), 2);
    }

    private static void passesNumbers() {
        CradleHour x = new CradleHour();
        due("passes(1)", x.passes(1), 0);
        due("passes(2): the least of two", x.passes(2), 0);
        due("passes(3)", x.passes(3), 1);
        due("passes(19)", x.passes(19), 7);
        due("passes(20)", x.passes(20), 7);
    }

    /** The least and the greatest seed: of HEIR C a NICK (x is 74), of HEIR E four PLACES on (x is 29092). */
    private static void hourSeeds() {
        CradleHour x = new CradleHour();
        due("hour(0, 1, 0)", x.hour(0, 1, 0), 0);
        due("hour(0, 1, 1)", x.hour(0, 1, 1), 1);
        due("hour(0, 1, 2)", x.hour(0, 1, 2), 0);
        due("hour(9999, 1, 0)", x.hour(9999, 1, 0), 0);
        due("hour(9999, 1, 1)", x.hour(9999, 1, 1), 0);
        due("hour(9999, 1, 2)", x.hour(9999, 1, 2), 0);
        // 75 x and 74 is 65474 of 872 and 65549 of 873: of HEIR A one PLACE back, 12 being left over.
        x.heir(0, 20, 5);
        due("hour(872, 1, 0): below 65537", x.hour(872, 1, 0), 20);
        due("hour(873, 1, 0): left over by 65537", x.hour(873, 1, 0), 19);
    }

    private static void hourActs() {
        // From seed 54 on: a minute, a minute (HEIRS C and A).
        CradleHour x = new CradleHour();
        for (int p = 0; p < 40; p++) {
            x.cradle(p, 1, 1, -1);
        }
        due("hour(54, 1, 0)", x.hour(54, 1, 0), 1);
        due("hour(54, 2, 0)", x.hour(54, 2, 0), 2);
        for (int seed : new int[] {0, 1, 872, 873, 9611, 9998, 9999}) {
            sameAsTexts(seed, 1);
            sameAsTexts(seed, 2);
            sameAsTexts(seed, 98);
            sameAsTexts(seed, 99);
        }
    }

    /** Each draw as a text of one ACT, DONE if it can be: at the most 5 calls for each of 99 ACTS. */
    private static void sameAsTexts(int seed, int m) {
        CradleHour texts = new CradleHour();
        int x = seed;
        for (int k = 0; k < m; k++) {
            x = (75 * x + 74) % 65537;
            Checks.say(texts, drawnAct(x % 6, x / 6 % 8, x / 48));
            if (texts.done() < 0) {
                texts.wipe();
            }
        }
        CradleHour drawn = new CradleHour();
        String call = "hour(" + seed + ", " + m + ", ";
        due(call + "0)", drawn.hour(seed, m, 0), texts.told(10));
        due(call + "1)", drawn.hour(seed, m, 1), texts.told(2));
        due(call + "2)", drawn.hour(seed, m, 2), texts.told(1));
    }

    private static String drawnAct(int heir, int lot, int z) {
        if (lot == 7 && z % 8 != 0) {
            return ".";
        }
        int more = z % 9 + 1;
        String[] deeds = {">" + more, ">" + more, "<" + more, "?", "*", "" + more, "~", "!"};
        return (char) ('A' + heir) + deeds[lot];
    }

    private static void imagesAndRestores() {
        for (int k = 0; k <= 1; k++) {
            CradleHour x = new CradleHour();
            due("image(" + k + ")", x.image(k), 1);
            x.cradle(0, 9, 1, 0);
            due("restore(" + k + ")", x.restore(k), 1);
            due("BEAT", x.told(100), 1);
            due("restore of the other", x.restore(1 - k), -3);
        }
    }

    private static void toldWhats() {
        CradleHour x = new CradleHour();
        for (int p = 0; p < 40; p++) {
            due("told(100 + " + p + ")", x.told(100 + p), p % 9 + 1);
            due("told(200 + " + p + ")", x.told(200 + p), 0);
            due("told(300 + " + p + ")", x.told(300 + p), NONE);
        }
        for (int h = 0; h < 6; h++) {
            due("told(10 + " + h + ")", x.told(10 + h), 0);
            due("told(20 + " + h + ")", x.told(20 + h), 5);
            due("told(30 + " + h + ")", x.told(30 + h), 0);
            due("told(40 + " + h + ")", x.told(40 + h), NONE);
        }
        for (int what = 0; what <= 4; what++) {
            due("told(" + what + ")", x.told(what), 0);
        }
    }
}
