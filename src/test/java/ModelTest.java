import java.math.BigInteger;
import java.util.ArrayList;
import java.util.List;
import java.util.Random;
import java.util.regex.Matcher;
import java.util.regex.Pattern;

/** Compares the class with plain models: long runs of drawn calls, and sums done by trying everything. */
public final class ModelTest {
    private static final Checks C = new Checks("ModelTest");
    private static final int STATE = -3, FULL = -4, NO = -5, NONE = -6;

    public static void main(String[] args) {
        runs();
        seekByAllOrders();
        mixByHand();
        risesByAllSubsets();
        takeByAllGames();
        passByAllOrders();
        passBySums();
        C.finish();
    }

    private static void due(String call, long got, long want) {
        C.due(call, got, want);
    }

    // ---- the state, as plainly as the document tells it

    private static final class Cradle {
        int beat;
        boolean nick;
        int whose = NONE;

        Cradle copy() {
            Cradle c = new Cradle();
            c.beat = beat;
            c.nick = nick;
            c.whose = whose;
            return c;
        }
    }

    private static final class Heir {
        int place = 0;
        int kept = 5;
        int heard = 0;
        int chosen = NONE;

        Heir copy() {
            Heir h = new Heir();
            h.place = place;
            h.kept = kept;
            h.heard = heard;
            h.chosen = chosen;
            return h;
        }
    }

    private record Sight(int b, int d, boolean is) {
        boolean holds(int beat) {
            return (beat >= b - d && beat <= b + d) == is;
        }
    }

    private static final class World {
        List<Cradle> row = new ArrayList<>();
        List<Heir> heirs = new ArrayList<>();
        List<Sight> sights = new ArrayList<>();
        int minute = 0;
        int hearings = 0;

        static World fresh() {
            World w = new World();
            for (int p = 0; p < 40; p++) {
                Cradle c = new Cradle();
                c.beat = p % 9 + 1;
                w.row.add(c);
            }
            for (int h = 0; h < 6; h++) {
                w.heirs.add(new Heir());
            }
            return w;
        }

        World copy() {
            World w = new World();
            row.forEach(c -> w.row.add(c.copy()));
            heirs.forEach(h -> w.heirs.add(h.copy()));
            w.sights.addAll(sights);
            w.minute = minute;
            return w;
        }

        /** Does an ACT told by its signs: 0, or why it can not be. */
        int act(String act) {
            if (act.equals(".")) {
                return minute();
            }
            Heir h = heirs.get(act.charAt(0) - 'A');
            if (h.chosen != NONE) {
                return 1;
            }
            Cradle c = row.get(h.place);
            char deed = act.charAt(1);
            if (deed == '>' || deed == '<') {
                int to = h.place + (deed == '>' ? 1 : -1) * (act.charAt(2) - '0');
                if (to < 0 || to > 39) {
                    return 2;
                }
                h.place = to;
            } else if (deed == '~') {
                if (h.place == 39) {
                    return 2;
                }
                row.add(h.place, row.remove(h.place + 1));
            } else if (deed == '?') {
                if (c.beat == h.kept) {
                    hearings++;
                    h.heard = Math.min(99, h.heard + 1);
                }
            } else if (deed == '*') {
                c.nick = !c.nick;
            } else if (deed == '!') {
                if (heirs.stream().anyMatch(o -> o.chosen == h.place)) {
                    return 4;
                }
                h.chosen = h.place;
            } else {
                if (c.beat == deed - '0') {
                    return 3;
                }
                c.beat = deed - '0';
            }
            return 0;
        }

        private int minute() {
            if (minute == 60) {
                return 5;
            }
            minute++;
            for (Heir h : heirs) {
                if (h.chosen == NONE && row.get(h.place).nick && h.place < 39) {
                    h.place++;
                }
            }
            return 0;
        }

        int chosen() {
            int bits = 0;
            for (int h = 0; h < 6; h++) {
                bits |= heirs.get(h).chosen == NONE ? 0 : 1 << h;
            }
            return bits;
        }

        int right() {
            int bits = 0;
            for (int h = 0; h < 6; h++) {
                int p = heirs.get(h).chosen;
                bits |= p != NONE && row.get(p).whose == h ? 1 << h : 0;
            }
            return bits;
        }

        int nicks() {
            return (int) row.stream().filter(c -> c.nick).count();
        }

        List<Integer> own() {
            List<Integer> places = new ArrayList<>();
            for (int p = 0; p < 40; p++) {
                int beat = row.get(p).beat;
                if (sights.stream().allMatch(s -> s.holds(beat))) {
                    places.add(p);
                }
            }
            return places;
        }

        /** What to ask, and how many are left at the most. */
        int[] ask() {
            List<Integer> places = own();
            int[] best = {NONE, NONE};
            for (int code = 10; code <= 98 && !places.isEmpty(); code++) {
                if (code % 10 == 9) {
                    continue;
                }
                Sight s = new Sight(code / 10, code % 10, true);
                int yes = (int) places.stream().filter(p -> s.holds(row.get(p).beat)).count();
                int left = Math.max(yes, places.size() - yes);
                if (best[0] == NONE || left < best[1]) {
                    best = new int[] {code, left};
                }
            }
            return best;
        }

        int[] rises(int from) {
            int[] longest = new int[40];
            int[] best = {0, NONE};
            for (int p = 39; p >= from; p--) {
                longest[p] = 1;
                for (int q = p + 1; q < 40; q++) {
                    if (row.get(q).beat >= row.get(p).beat) {
                        longest[p] = Math.max(longest[p], 1 + longest[q]);
                    }
                }
            }
            for (int p = from; p < 40; p++) {
                if (longest[p] > best[0]) {
                    best = new int[] {longest[p], p};
                }
            }
            return best;
        }

        World hour(int seed, int m) {
            World w = copy();
            long x = seed;
            for (int k = 0; k < m; k++) {
                x = (75 * x + 74) % 65537;
                char letter = (char) ('A' + x % 6);
                long z = x / 48;
                String more = "" + (z % 9 + 1);
                String[] deeds = {">" + more, ">" + more, "<" + more, "?", "*", more, "~", "!"};
                int lot = (int) (x / 6 % 8);
                w.act(lot == 7 && z % 8 != 0 ? "." : letter + deeds[lot]);
            }
            return w;
        }
    }

    private static final Pattern ACT = Pattern.compile("\\.|[A-F](?:[><][1-9]|[?*1-9~!])");

    /** The signs of the text that can begin some text without FAULT. */
    private static int fault(String text) {
        for (int n = 1; n <= text.length(); n++) {
            String head = text.substring(0, n);
            boolean can = false;
            for (String tail : new String[] {"", "?", "1"}) {
                can |= Pattern.matches("(?:" + ACT + ")*", head + tail);
            }
            if (!can) {
                return n - 1;
            }
        }
        return Pattern.matches("(?:" + ACT + ")*", text) ? NONE : text.length();
    }

    private static List<String> acts(String text) {
        List<String> acts = new ArrayList<>();
        Matcher m = ACT.matcher(text);
        while (m.find()) {
            acts.add(m.group());
        }
        return acts;
    }

    // ---- runs of drawn calls

    private static final class Run {
        final Random r;
        final String name;
        CradleHour x = new CradleHour();
        World w = World.fresh();
        World[] images = new World[2];
        String pad = "";
        int calls = 0;

        Run(int seed) {
            r = new Random(seed);
            name = "run " + seed + ": ";
        }

        void check(String call, long got, long want) {
            calls++;
            due(name + call, got, want);
        }

        String drawnAct() {
            if (r.nextInt(9) == 0) {
                return ".";
            }
            char letter = (char) ('A' + r.nextInt(6));
            switch (r.nextInt(9)) {
                case 0: case 1: case 2:
                    return letter + ">" + (1 + r.nextInt(9));
                case 3:
                    return letter + "<" + (1 + r.nextInt(3));
                case 4:
                    return letter + "*";
                case 5:
                    return letter + "" + (1 + r.nextInt(9));
                case 6:
                    return letter + "~";
                case 7:
                    return r.nextInt(4) == 0 ? letter + "!" : letter + "*";
                default:
                    return letter + "?";
            }
        }

        void sayText(String text) {
            for (char sign : text.toCharArray()) {
                boolean full = pad.length() == 60;
                pad = full ? pad : pad + sign;
                check("say(" + sign + ")", x.say(sign), full ? FULL : pad.length());
            }
        }

        void write() {
            if (r.nextInt(4) == 0) {
                check("wipe()", x.wipe(), pad.length());
                pad = "";
            }
            int n = r.nextInt(6);
            for (int k = 0; k < n; k++) {
                sayText(drawnAct());
            }
            if (r.nextInt(12) == 0) {
                sayText("" + (char) (33 + r.nextInt(94)));
            }
        }

        void arrange() {
            int p = r.nextInt(40);
            int beat = 1 + r.nextInt(9);
            int nick = r.nextInt(2);
            int whose = r.nextInt(7) - 1;
            Cradle c = w.row.get(p);
            check("cradle", x.cradle(p, beat, nick, whose), c.beat);
            c.beat = beat;
            c.nick = nick == 1;
            c.whose = whose == -1 ? NONE : whose;
            if (r.nextInt(2) == 0) {
                Heir h = new Heir();
                int i = r.nextInt(6);
                h.place = r.nextInt(40);
                h.kept = 1 + r.nextInt(9);
                check("heir", x.heir(i, h.place, h.kept), w.heirs.get(i).place);
                w.heirs.set(i, h);
            }
        }

        void lookAtText() {
            int flaw = fault(pad);
            check("fault of " + pad, x.fault(), flaw);
            World b = w.copy();
            int act = NONE, why = NONE, wrongAct = NONE, wrongWho = NONE;
            List<String> acts = acts(pad);
            for (int k = 0; k < acts.size() && act == NONE && flaw == NONE; k++) {
                int reason = b.act(acts.get(k));
                if (reason != 0) {
                    act = k;
                    why = reason;
                } else if (acts.get(k).endsWith("!") && wrongAct == NONE) {
                    int who = acts.get(k).charAt(0) - 'A';
                    if (b.row.get(b.heirs.get(who).chosen).whose != who) {
                        wrongAct = k;
                        wrongWho = who;
                    }
                }
            }
            int bad = flaw != NONE ? NO : act != NONE ? STATE : 0;
            check("judge(0) of " + pad, x.judge(0), flaw != NONE ? NO : act);
            check("judge(1) of " + pad, x.judge(1), flaw != NONE ? NO : why);
            check("judge(2) of " + pad, x.judge(2), bad != 0 ? bad : b.hearings);
            check("wrong(0) of " + pad, x.wrong(0), bad != 0 ? bad : wrongAct);
            check("wrong(1) of " + pad, x.wrong(1), bad != 0 ? bad : wrongWho);
            int[] house = {b.chosen(), b.right(), b.nicks(), b.minute};
            for (int what = 0; what < 4; what++) {
                check("house(" + what + ") of " + pad, x.house(what), bad != 0 ? bad : house[what]);
            }
            lookBehind(b, bad);
            if (r.nextInt(3) == 0) {
                check("done() of " + pad, x.done(), bad != 0 ? bad : acts.size());
                if (bad == 0) {
                    w = b;
                    pad = "";
                }
            }
        }

        void lookBehind(World b, int bad) {
            int i = r.nextInt(6);
            Heir h = b.heirs.get(i);
            int[] behind = {h.place, h.heard, h.chosen};
            int p = r.nextInt(3) == 0 ? r.nextInt(40) : h.place;
            Cradle c = b.row.get(p);
            int[] stands = {c.beat, c.nick ? 1 : 0, c.whose};
            for (int what = 0; what < 3; what++) {
                check("behind(" + i + ", " + what + ") of " + pad, x.behind(i, what), bad != 0 ? bad : behind[what]);
                check("stands(" + p + ", " + what + ") of " + pad, x.stands(p, what), bad != 0 ? bad : stands[what]);
            }
        }

        void lookAtRow() {
            int p = r.nextInt(40);
            check("rises(" + p + ", 0)", x.rises(p, 0), w.rises(p)[0]);
            check("rises(" + p + ", 1)", x.rises(p, 1), w.rises(p)[1]);
            if (r.nextInt(2) == 0) {
                Sight s = new Sight(1 + r.nextInt(9), r.nextInt(9), r.nextInt(3) > 0);
                boolean full = w.sights.size() == 8;
                check("like", x.like(s.b(), s.d(), s.is()), full ? FULL : w.sights.size() + 1);
                if (!full) {
                    w.sights.add(s);
                }
            } else if (r.nextInt(3) == 0) {
                check("forget()", x.forget(), w.sights.size());
                w.sights.clear();
            }
            List<Integer> own = w.own();
            check("own(-1)", x.own(-1), own.size());
            int i = r.nextInt(own.size() + 2);
            check("own(" + i + ")", x.own(i), i < own.size() ? own.get(i) : NONE);
            check("ask(0)", x.ask(0), w.ask()[0]);
            check("ask(1)", x.ask(1), w.ask()[1]);
        }

        void drawHour() {
            int seed = r.nextInt(10000);
            int m = 1 + r.nextInt(99);
            World b = w.hour(seed, m);
            String call = "hour(" + seed + ", " + m + ", ";
            check(call + "0)", x.hour(seed, m, 0), b.heirs.get(0).place);
            check(call + "1)", x.hour(seed, m, 1), b.nicks());
            check(call + "2)", x.hour(seed, m, 2), b.chosen());
        }

        void keepOrRestore() {
            int k = r.nextInt(2);
            if (r.nextInt(2) == 0) {
                check("image(" + k + ")", x.image(k), 1);
                images[k] = w.copy();
            } else {
                check("restore(" + k + ")", x.restore(k), images[k] == null ? STATE : 1);
                w = images[k] == null ? w : images[k].copy();
            }
        }

        void lookAtAll() {
            int[] first = {pad.length(), w.chosen(), w.nicks(), w.minute, w.sights.size()};
            for (int what = 0; what < 5; what++) {
                check("told(" + what + ")", x.told(what), first[what]);
            }
            for (int i = 0; i < 6; i++) {
                Heir h = w.heirs.get(i);
                check("told(10 + " + i + ")", x.told(10 + i), h.place);
                check("told(20 + " + i + ")", x.told(20 + i), h.kept);
                check("told(30 + " + i + ")", x.told(30 + i), h.heard);
                check("told(40 + " + i + ")", x.told(40 + i), h.chosen);
            }
            for (int p = 0; p < 40; p++) {
                Cradle c = w.row.get(p);
                check("told(100 + " + p + ")", x.told(100 + p), c.beat);
                check("told(200 + " + p + ")", x.told(200 + p), c.nick ? 1 : 0);
                check("told(300 + " + p + ")", x.told(300 + p), c.whose);
            }
        }

        void go() {
            // A round takes some 50 calls, the last look 149: an object is used for 512 only.
            while (calls < 290) {
                write();
                arrange();
                lookAtText();
                lookAtRow();
                drawHour();
                keepOrRestore();
            }
            lookAtAll();
        }
    }

    private static void runs() {
        for (int seed = 1; seed <= 1000; seed++) {
            new Run(seed).go();
        }
    }

    // ---- sums by trying everything

    /** The least sum over all orders, and the least CRADLE that begins one of these. */
    private static long[] leastOrder(int[] odds, int[] minutes, int used, long time) {
        long[] best = {used == (1 << odds.length) - 1 ? 0 : Long.MAX_VALUE, -1};
        for (int i = 0; i < odds.length; i++) {
            if ((used & 1 << i) == 0) {
                long found = time + minutes[i];
                long sum = odds[i] * found + leastOrder(odds, minutes, used | 1 << i, found)[0];
                if (sum < best[0]) {
                    best = new long[] {sum, i};
                }
            }
        }
        return best;
    }

    private static void seekByAllOrders() {
        Random r = new Random(7);
        for (int k = 0; k < 400; k++) {
            CradleHour x = new CradleHour();
            int n = 1 + r.nextInt(k % 100 == 0 ? 9 : 6);
            int top = 1 + r.nextInt(9);
            int[] odds = r.ints(n, 1, top + 1).toArray();
            int[] minutes = r.ints(n, 1, top + 1).toArray();
            int oddsRow = 0, minutesRow = 0, whole = 0;
            for (int i = 0; i < n; i++) {
                oddsRow = 10 * oddsRow + odds[i];
                minutesRow = 10 * minutesRow + minutes[i];
                whole += odds[i];
            }
            long[] best = leastOrder(odds, minutes, 0, 0);
            long g = BigInteger.valueOf(best[0]).gcd(BigInteger.valueOf(whole)).longValue();
            String call = "(" + oddsRow + ", " + minutesRow + ", " + n + ")";
            due("seek" + call + " upper", x.seek(oddsRow, minutesRow, n, 0), best[0] / g);
            due("seek" + call + " lower", x.seek(oddsRow, minutesRow, n, 1), whole / g);
            due("looks" + call, x.looks(oddsRow, minutesRow, n), best[1]);
        }
    }

    private static int[] mixed(int[] row) {
        int[] next = new int[row.length];
        for (int k = 0; k < row.length / 2; k++) {
            next[2 * k] = row[k];
            next[2 * k + 1] = row[row.length / 2 + k];
        }
        return next;
    }

    private static int indexOf(int[] row, int value) {
        int at = 0;
        while (row[at] != value) {
            at++;
        }
        return at;
    }

    private static void mixByHand() {
        Random r = new Random(8);
        for (int n = 2; n <= 998; n += 2) {
            CradleHour x = new CradleHour();
            List<int[]> rows = new ArrayList<>();
            int[] start = new int[n];
            for (int k = 0; k < n; k++) {
                start[k] = k;
            }
            rows.add(start);
            for (int[] next = mixed(start); !java.util.Arrays.equals(next, start); next = mixed(next)) {
                rows.add(next);
            }
            int round = rows.size();
            due("mix(" + n + ", 0, 0, 1)", x.mix(n, 0, 0, 1), round);
            for (int k = 0; k < 10; k++) {
                int i = k == 0 ? n - 1 : r.nextInt(n);
                int m = k < 5 ? r.nextInt(20) : r.nextInt(1000000000);
                due("mix(" + n + ", " + i + ", " + m + ", 0)", x.mix(n, i, m, 0), indexOf(rows.get(m % round), i));
                due("mix(" + n + ", " + i + ", " + m + ", 1)", x.mix(n, i, m, 1), round);
            }
        }
    }

    private static void risesByAllSubsets() {
        Random r = new Random(9);
        for (int k = 0; k < 60; k++) {
            CradleHour x = new CradleHour();
            int[] beats = r.ints(40, 1, 10).toArray();
            for (int p = 0; p < 40; p++) {
                x.cradle(p, beats[p], 0, -1);
            }
            int from = 26 + r.nextInt(14);
            int most = 0, first = 40;
            for (int set = 1; set < 1 << (40 - from); set++) {
                boolean rising = true;
                int last = 0;
                for (int p = from; p < 40; p++) {
                    if ((set >> (p - from) & 1) == 1) {
                        rising &= beats[p] >= last;
                        last = beats[p];
                    }
                }
                int size = Integer.bitCount(set);
                int begins = from + Integer.numberOfTrailingZeros(set);
                if (rising && (size > most || size == most && begins < first)) {
                    most = size;
                    first = begins;
                }
            }
            due("rises(" + from + ", 0)", x.rises(from, 0), most);
            due("rises(" + from + ", 1)", x.rises(from, 1), first);
        }
    }

    private static void takeByAllGames() {
        int[] first = new int[1000];
        CradleHour x = new CradleHour();
        for (int n = 1; n <= 999; n++) {
            first[n] = NONE;
            for (int t = n / 2; t >= 1; t--) {
                first[n] = first[n - t] == NONE ? t : first[n];
            }
            if (n % 250 == 0) {
                x = new CradleHour();
            }
            due("take(" + n + ", 0)", x.take(n, 0), first[n] == NONE ? 0 : 1);
            due("take(" + n + ", 1)", x.take(n, 1), first[n]);
        }
    }

    /** Counts the orders of 0 to n less 1 in which, r being passed by, the best (n less 1) is taken. */
    private static long goodOrders(int[] order, int at, int used, int r) {
        int n = order.length;
        if (at == n) {
            int best = -1;
            for (int k = 0; k < n; k++) {
                if (k >= r && order[k] > best) {
                    return order[k] == n - 1 ? 1 : 0;
                }
                best = Math.max(best, order[k]);
            }
            return 0;
        }
        long sum = 0;
        for (int v = 0; v < n; v++) {
            if ((used & 1 << v) == 0) {
                order[at] = v;
                sum += goodOrders(order, at + 1, used | 1 << v, r);
            }
        }
        return sum;
    }

    private static void passByAllOrders() {
        CradleHour x = new CradleHour();
        long all = 1;
        for (int n = 1; n <= 8; n++) {
            all *= n;
            int best = 0;
            long most = 0;
            for (int r = 0; r < n; r++) {
                long good = goodOrders(new int[n], 0, 0, r);
                long g = BigInteger.valueOf(good).gcd(BigInteger.valueOf(all)).longValue();
                due("pass(" + n + ", " + r + ", 0)", x.pass(n, r, 0), good / g);
                due("pass(" + n + ", " + r + ", 1)", x.pass(n, r, 1), all / g);
                if (good > most) {
                    most = good;
                    best = r;
                }
            }
            due("passes(" + n + ")", x.passes(n), best);
        }
    }

    private static void passBySums() {
        for (int n = 1; n <= 20; n++) {
            CradleHour x = new CradleHour();
            for (int r = 1; r < n; r++) {
                BigInteger upper = BigInteger.ZERO, lower = BigInteger.ONE;
                for (int k = r; k < n; k++) {
                    upper = upper.multiply(BigInteger.valueOf(k)).add(lower);
                    lower = lower.multiply(BigInteger.valueOf(k));
                }
                upper = upper.multiply(BigInteger.valueOf(r));
                lower = lower.multiply(BigInteger.valueOf(n));
                BigInteger g = upper.gcd(lower);
                due("pass(" + n + ", " + r + ", 0)", x.pass(n, r, 0), upper.divide(g).longValueExact());
                due("pass(" + n + ", " + r + ", 1)", x.pass(n, r, 1), lower.divide(g).longValueExact());
            }
        }
    }
}
