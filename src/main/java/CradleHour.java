public final class CradleHour {
    public static final int UNKNOWN = -1, OUTSIDE = -2, STATE = -3, FULL = -4, NO = -5, NONE = -6;
    public static final long GONE = -1000000000000000000L;

    private static final int PLACES = 40;
    private static final int HEIRS = 6;
    private static final int TOP_BEAT = 9;
    private static final int IMAGES = 2;
    private static final int MOST_TAKEN_FROM = 999;

    // What a test of the arguments or of the text answers when the call may go on.
    private static final int FINE = 0;

    // The kinds of ACTS, by the sign that tells them; a digit's sign is told apart by its amount.
    private static final int ON = '>';
    private static final int BACK = '<';
    private static final int LISTEN = '?';
    private static final int CUT = '*';
    private static final int ROCK = '0';
    private static final int CHANGE = '~';
    private static final int CHOOSE = '!';
    private static final int MINUTE = '.';

    private final Gallery now;
    private final Sights sights;
    private final Pad pad;
    private final Trial trial;
    private final Rising rising;
    private final Gallery[] galleryImages;
    private final Sights[] sightsImages;
    private final boolean[] imageIsKept;

    public CradleHour() {
        now = new Gallery();
        sights = new Sights();
        pad = new Pad();
        trial = new Trial();
        rising = new Rising();
        galleryImages = new Gallery[IMAGES];
        sightsImages = new Sights[IMAGES];
        imageIsKept = new boolean[IMAGES];
        for (int k = 0; k < IMAGES; k++) {
            galleryImages[k] = new Gallery();
            sightsImages[k] = new Sights();
        }
    }

    // ---- 1 cradles, heirs

    public int cradle(int place, int beat, int nick, int heir) {
        if (!isPlace(place) || (heir != -1 && !isHeir(heir))) {
            return UNKNOWN;
        }
        if (!isBeat(beat) || !isWithin(nick, 0, 1)) {
            return OUTSIDE;
        }
        int had = now.beats[place];
        now.beats[place] = beat;
        now.nicks[place] = nick;
        now.owners[place] = heir == -1 ? NONE : heir;
        return had;
    }

    public int heir(int heir, int place, int kept) {
        if (!isHeir(heir) || !isPlace(place)) {
            return UNKNOWN;
        }
        if (!isBeat(kept)) {
            return OUTSIDE;
        }
        int stood = now.spots[heir];
        now.spots[heir] = place;
        now.kept[heir] = kept;
        now.heard[heir] = 0;
        now.chosen[heir] = NONE;
        return stood;
    }

    public int say(int sign) {
        if (!isWithin(sign, 33, 126)) {
            return OUTSIDE;
        }
        return pad.add(sign);
    }

    public int wipe() {
        return pad.clear();
    }

    public int fault() {
        return pad.flaw();
    }

    // ---- 2 hours

    public int judge(int what) {
        if (!isWithin(what, 0, 2)) {
            return OUTSIDE;
        }
        int refusal = followText();
        if (refusal == NO || (refusal == STATE && what == 2)) {
            return refusal;
        }
        if (what == 0) {
            return trial.barredAct;
        }
        return what == 1 ? trial.barredWhy : trial.hearings;
    }

    public int behind(int heir, int what) {
        if (!isHeir(heir)) {
            return UNKNOWN;
        }
        if (!isWithin(what, 0, 2)) {
            return OUTSIDE;
        }
        int refusal = followText();
        if (refusal != FINE) {
            return refusal;
        }
        if (what == 0) {
            return trial.gallery.spots[heir];
        }
        return what == 1 ? trial.gallery.heard[heir] : trial.gallery.chosen[heir];
    }

    public int stands(int place, int what) {
        if (!isPlace(place)) {
            return UNKNOWN;
        }
        if (!isWithin(what, 0, 2)) {
            return OUTSIDE;
        }
        int refusal = followText();
        if (refusal != FINE) {
            return refusal;
        }
        if (what == 0) {
            return trial.gallery.beats[place];
        }
        return what == 1 ? trial.gallery.nicks[place] : trial.gallery.owners[place];
    }

    public int house(int what) {
        if (!isWithin(what, 0, 3)) {
            return OUTSIDE;
        }
        int refusal = followText();
        if (refusal != FINE) {
            return refusal;
        }
        switch (what) {
            case 0:
                return trial.gallery.chosenBits();
            case 1:
                return trial.gallery.rightBits();
            case 2:
                return trial.gallery.nickCount();
            default:
                return trial.gallery.minute;
        }
    }

    public int wrong(int what) {
        if (!isWithin(what, 0, 1)) {
            return OUTSIDE;
        }
        int refusal = followText();
        if (refusal != FINE) {
            return refusal;
        }
        return what == 0 ? trial.wrongAct : trial.wrongHeir;
    }

    public int done() {
        int refusal = followText();
        if (refusal != FINE) {
            return refusal;
        }
        now.copyFrom(trial.gallery);
        pad.clear();
        return trial.acts;
    }

    // ---- 3 seeking, mixing, rising

    public long seek(int odds, int minutes, int n, int part) {
        if (!Seeking.isAsTold(odds, minutes, n) || !isWithin(part, 0, 1)) {
            return GONE + OUTSIDE;
        }
        return lowestTerm(Seeking.leastSum(odds, minutes, n), Seeking.digitSum(odds, n), part);
    }

    public int looks(int odds, int minutes, int n) {
        if (!Seeking.isAsTold(odds, minutes, n)) {
            return OUTSIDE;
        }
        return Seeking.first(odds, minutes, n);
    }

    public int mix(int n, int i, int m, int what) {
        if (!isWithin(n, 2, 998) || n % 2 != 0 || !isWithin(i, 0, n - 1)) {
            return OUTSIDE;
        }
        if (!isWithin(m, 0, 999999999) || !isWithin(what, 0, 1)) {
            return OUTSIDE;
        }
        return what == 0 ? Mixing.placeBehind(n, i, m) : Mixing.round(n);
    }

    public int rises(int place, int what) {
        if (!isPlace(place)) {
            return UNKNOWN;
        }
        if (!isWithin(what, 0, 1)) {
            return OUTSIDE;
        }
        rising.measure(now.beats, place);
        return what == 0 ? rising.most : rising.first;
    }

    // ---- 4 his own, taking, passing by

    public int like(int b, int d, boolean is) {
        if (!isBeat(b) || !isWithin(d, 0, TOP_BEAT - 1)) {
            return OUTSIDE;
        }
        return sights.add(b, d, is);
    }

    public int forget() {
        return sights.clear();
    }

    public int own(int i) {
        if (i < -1) {
            return NONE;
        }
        int found = 0;
        for (int place = 0; place < PLACES; place++) {
            if (sights.fit(now.beats[place])) {
                if (found == i) {
                    return place;
                }
                found++;
            }
        }
        return i == -1 ? found : NONE;
    }

    public int ask(int what) {
        if (!isWithin(what, 0, 1)) {
            return OUTSIDE;
        }
        sights.findQuestion(now.beats);
        return what == 0 ? sights.question : sights.leftAtMost;
    }

    public int take(int n, int what) {
        if (!isWithin(n, 1, MOST_TAKEN_FROM) || !isWithin(what, 0, 1)) {
            return OUTSIDE;
        }
        int first = firstTaking(n);
        if (what == 0) {
            return first == 0 ? 0 : 1;
        }
        return first == 0 ? NONE : first;
    }

    public long pass(int n, int r, int part) {
        if (!isWithin(n, 1, Passing.MOST) || !isWithin(r, 0, n - 1) || !isWithin(part, 0, 1)) {
            return GONE + OUTSIDE;
        }
        return lowestTerm(Passing.weight(n, r), Passing.whole(n), part);
    }

    public int passes(int n) {
        if (!isWithin(n, 1, Passing.MOST)) {
            return OUTSIDE;
        }
        return Passing.best(n);
    }

    public int hour(int seed, int m, int what) {
        if (!isWithin(seed, 0, 9999) || !isWithin(m, 1, 99) || !isWithin(what, 0, 2)) {
            return OUTSIDE;
        }
        trial.draw(now, seed, m);
        if (what == 0) {
            return trial.gallery.spots[0];
        }
        return what == 1 ? trial.gallery.nickCount() : trial.gallery.chosenBits();
    }

    public int image(int k) {
        if (!isWithin(k, 0, IMAGES - 1)) {
            return OUTSIDE;
        }
        galleryImages[k].copyFrom(now);
        sightsImages[k].copyFrom(sights);
        imageIsKept[k] = true;
        return 1;
    }

    public int restore(int k) {
        if (!isWithin(k, 0, IMAGES - 1)) {
            return OUTSIDE;
        }
        if (!imageIsKept[k]) {
            return STATE;
        }
        now.copyFrom(galleryImages[k]);
        sights.copyFrom(sightsImages[k]);
        return 1;
    }

    public int told(int what) {
        if (isWithin(what, 100, 399)) {
            return toldOfPlace(what / 100, what % 100);
        }
        if (isWithin(what, 10, 49)) {
            return toldOfHeir(what / 10, what % 10);
        }
        switch (what) {
            case 0:
                return pad.count;
            case 1:
                return now.chosenBits();
            case 2:
                return now.nickCount();
            case 3:
                return now.minute;
            case 4:
                return sights.count;
            default:
                return OUTSIDE;
        }
    }

    private int toldOfPlace(int row, int place) {
        if (!isPlace(place)) {
            return OUTSIDE;
        }
        switch (row) {
            case 1:
                return now.beats[place];
            case 2:
                return now.nicks[place];
            default:
                return now.owners[place];
        }
    }

    private int toldOfHeir(int row, int heir) {
        if (!isHeir(heir)) {
            return OUTSIDE;
        }
        switch (row) {
            case 1:
                return now.spots[heir];
            case 2:
                return now.kept[heir];
            case 3:
                return now.heard[heir];
            default:
                return now.chosen[heir];
        }
    }

    /** Tries the PAD's text from what is now: FINE, NO or STATE; what it led to stands in the trial. */
    private int followText() {
        if (pad.flaw() != NONE) {
            return NO;
        }
        trial.follow(now, pad);
        return trial.barredAct == NONE ? FINE : STATE;
    }

    private static boolean isWithin(int value, int least, int most) {
        return value >= least && value <= most;
    }

    private static boolean isPlace(int place) {
        return place >= 0 && place < PLACES;
    }

    private static boolean isHeir(int heir) {
        return heir >= 0 && heir < HEIRS;
    }

    private static boolean isBeat(int beat) {
        return isWithin(beat, 1, TOP_BEAT);
    }

    /** One number of a fraction in lowest terms; both numbers are above 0. */
    private static long lowestTerm(long upper, long lower, int part) {
        long common = commonDivisor(upper, lower);
        long number = part == 0 ? upper : lower;
        return common > 0 ? number / common : number;
    }

    private static long commonDivisor(long a, long b) {
        long larger = a;
        long smaller = b;
        // Two steps at least halve the number: 128 are more than a long can need.
        for (int step = 0; step < 128 && smaller != 0; step++) {
            long rest = larger % smaller;
            larger = smaller;
            smaller = rest;
        }
        return larger;
    }

    /** How many the beginner takes to win, or 0: lost is whoever finds 1, 3, 7, .. (each twice the last, and 1). */
    private static int firstTaking(int n) {
        int lost = 1;
        for (int next = 1; next <= n && next <= MOST_TAKEN_FROM; next = 2 * next + 1) {
            lost = next;
        }
        // From n only the largest lost number up to n is in reach, so the taking is the only one.
        return n - lost;
    }

    /** All CRADLES and HEIRS at one time, and the minute. */
    private static final class Gallery {
        private static final int LAST_MINUTE = 60;
        private static final int MOST_HEARD = 99;

        final int[] beats;
        final int[] nicks;
        final int[] owners;
        final int[] spots;
        final int[] kept;
        final int[] heard;
        final int[] chosen;
        int minute;

        Gallery() {
            beats = new int[PLACES];
            nicks = new int[PLACES];
            owners = new int[PLACES];
            spots = new int[HEIRS];
            kept = new int[HEIRS];
            heard = new int[HEIRS];
            chosen = new int[HEIRS];
            for (int place = 0; place < PLACES; place++) {
                beats[place] = place % 9 + 1;
                owners[place] = NONE;
            }
            for (int heir = 0; heir < HEIRS; heir++) {
                kept[heir] = 5;
                chosen[heir] = NONE;
            }
        }

        void copyFrom(Gallery other) {
            System.arraycopy(other.beats, 0, beats, 0, PLACES);
            System.arraycopy(other.nicks, 0, nicks, 0, PLACES);
            System.arraycopy(other.owners, 0, owners, 0, PLACES);
            System.arraycopy(other.spots, 0, spots, 0, HEIRS);
            System.arraycopy(other.kept, 0, kept, 0, HEIRS);
            System.arraycopy(other.heard, 0, heard, 0, HEIRS);
            System.arraycopy(other.chosen, 0, chosen, 0, HEIRS);
            minute = other.minute;
        }

        int chosenBits() {
            int bits = 0;
            for (int heir = 0; heir < HEIRS; heir++) {
                if (chosen[heir] != NONE) {
                    bits |= 1 << heir;
                }
            }
            return bits;
        }

        int rightBits() {
            int bits = 0;
            for (int heir = 0; heir < HEIRS; heir++) {
                if (isPlace(chosen[heir]) && owners[chosen[heir]] == heir) {
                    bits |= 1 << heir;
                }
            }
            return bits;
        }

        int nickCount() {
            int sum = 0;
            for (int place = 0; place < PLACES; place++) {
                sum += nicks[place];
            }
            return sum;
        }

        // Every HEIR always stands at a PLACE; it is looked at so that no index is used untested.
        private boolean isStanding(int heir) {
            return isHeir(heir) && isPlace(spots[heir]);
        }

        boolean standsAtOwn(int heir) {
            return isStanding(heir) && owners[spots[heir]] == heir;
        }

        boolean hearsOwnBeat(int heir) {
            return isStanding(heir) && beats[spots[heir]] == kept[heir];
        }

        /** The least reason why an ACT can not be, or FINE. */
        int bar(int heir, int kind, int amount) {
            if (kind == MINUTE) {
                return minute >= LAST_MINUTE ? 5 : FINE;
            }
            if (!isStanding(heir)) {
                return 2;
            }
            if (chosen[heir] != NONE) {
                return 1;
            }
            int spot = spots[heir];
            switch (kind) {
                case ON:
                    return isPlace(spot + amount) ? FINE : 2;
                case BACK:
                    return isPlace(spot - amount) ? FINE : 2;
                case CHANGE:
                    return isPlace(spot + 1) ? FINE : 2;
                case ROCK:
                    return beats[spot] == amount ? 3 : FINE;
                case CHOOSE:
                    return isChosen(spot) ? 4 : FINE;
                default:
                    return FINE;
            }
        }

        /** Does an ACT that nothing bars. */
        void act(int heir, int kind, int amount) {
            if (!isStanding(heir)) {
                return;
            }
            int spot = spots[heir];
            switch (kind) {
                case ON:
                    spots[heir] = spot + amount;
                    break;
                case BACK:
                    spots[heir] = spot - amount;
                    break;
                case LISTEN:
                    if (beats[spot] == kept[heir]) {
                        heard[heir] = Math.min(heard[heir] + 1, MOST_HEARD);
                    }
                    break;
                case CUT:
                    nicks[spot] = 1 - nicks[spot];
                    break;
                case ROCK:
                    beats[spot] = amount;
                    break;
                case CHANGE:
                    changeWithNext(spot);
                    break;
                case CHOOSE:
                    chosen[heir] = spot;
                    break;
                case MINUTE:
                    letMinutePass();
                    break;
                default:
                    break;
            }
        }

        private boolean isChosen(int place) {
            for (int heir = 0; heir < HEIRS; heir++) {
                if (chosen[heir] == place) {
                    return true;
                }
            }
            return false;
        }

        private void changeWithNext(int place) {
            swapWithNext(beats, place);
            swapWithNext(nicks, place);
            swapWithNext(owners, place);
        }

        private static void swapWithNext(int[] row, int place) {
            if (place < 0 || place + 1 >= row.length) {
                return;
            }
            int moved = row[place];
            row[place] = row[place + 1];
            row[place + 1] = moved;
        }

        private boolean hasNick(int place) {
            return isPlace(place) && nicks[place] == 1;
        }

        private void letMinutePass() {
            minute++;
            for (int heir = 0; heir < HEIRS; heir++) {
                int spot = spots[heir];
                if (chosen[heir] == NONE && hasNick(spot) && isPlace(spot + 1)) {
                    spots[heir] = spot + 1;
                }
            }
        }
    }

    /** The text of an HOUR, sign by sign. */
    private static final class Pad {
        private static final int MOST = 60;

        // What is awaited: an ACT's beginning, what the HEIR does, how far he goes.
        private static final int AWAITS_ACT = 0;
        private static final int AWAITS_DEED = 1;
        private static final int AWAITS_DIGIT = 2;
        private static final int CAN_NOT_STAND = -1;

        final int[] signs;
        int count;

        Pad() {
            signs = new int[MOST];
        }

        int add(int sign) {
            if (count >= MOST) {
                return FULL;
            }
            signs[count] = sign;
            count++;
            return count;
        }

        int clear() {
            int had = count;
            count = 0;
            return had;
        }

        int flaw() {
            int awaited = AWAITS_ACT;
            for (int at = 0; at < count && at < MOST; at++) {
                awaited = awaitedBehind(awaited, signs[at]);
                if (awaited == CAN_NOT_STAND) {
                    return at;
                }
            }
            return awaited == AWAITS_ACT ? NONE : count;
        }

        private static int awaitedBehind(int awaited, int sign) {
            if (awaited == AWAITS_ACT) {
                if (sign == MINUTE) {
                    return AWAITS_ACT;
                }
                return isLetter(sign) ? AWAITS_DEED : CAN_NOT_STAND;
            }
            if (isDigit(sign)) {
                return AWAITS_ACT;
            }
            if (awaited == AWAITS_DIGIT) {
                return CAN_NOT_STAND;
            }
            if (isWay(sign)) {
                return AWAITS_DIGIT;
            }
            return isPlainDeed(sign) ? AWAITS_ACT : CAN_NOT_STAND;
        }

        static boolean isLetter(int sign) {
            return isWithin(sign, 'A', 'A' + HEIRS - 1);
        }

        static boolean isDigit(int sign) {
            return isWithin(sign, '1', '9');
        }

        static boolean isWay(int sign) {
            return sign == ON || sign == BACK;
        }

        private static boolean isPlainDeed(int sign) {
            return sign == LISTEN || sign == CUT || sign == CHANGE || sign == CHOOSE;
        }
    }

    /** An HOUR tried on a copy of the gallery, so that nothing is DONE in fact. */
    private static final class Trial {
        final Gallery gallery;
        int acts;
        int barredAct;
        int barredWhy;
        int hearings;
        int wrongAct;
        int wrongHeir;

        Trial() {
            gallery = new Gallery();
        }

        /** Follows a text without FAULT up to the first ACT that can not be. */
        void follow(Gallery from, Pad pad) {
            begin(from);
            int heir = 0;
            int way = 0;
            for (int at = 0; at < pad.count && at < Pad.MOST && barredAct == NONE; at++) {
                int sign = pad.signs[at];
                if (way != 0) {
                    attempt(heir, way, sign - '0');
                    way = 0;
                } else if (Pad.isLetter(sign)) {
                    heir = sign - 'A';
                } else if (Pad.isWay(sign)) {
                    way = sign;
                } else if (Pad.isDigit(sign)) {
                    attempt(heir, ROCK, sign - '0');
                } else {
                    attempt(heir, sign, 0);
                }
            }
        }

        /** Follows an HOUR by draws: ACTS that can not be are left out. */
        void draw(Gallery from, int seed, int m) {
            begin(from);
            int x = seed;
            for (int k = 0; k < m; k++) {
                x = (75 * x + 74) % 65537;
                int kind = drawnKind(x / 6 % 8, x / 48);
                int amount = x / 48 % 9 + 1;
                if (gallery.bar(x % 6, kind, amount) == FINE) {
                    gallery.act(x % 6, kind, amount);
                }
            }
        }

        private static int drawnKind(int lot, int z) {
            switch (lot) {
                case 0:
                case 1:
                    return ON;
                case 2:
                    return BACK;
                case 3:
                    return LISTEN;
                case 4:
                    return CUT;
                case 5:
                    return ROCK;
                case 6:
                    return CHANGE;
                default:
                    return z % 8 == 0 ? CHOOSE : MINUTE;
            }
        }

        private void begin(Gallery from) {
            gallery.copyFrom(from);
            acts = 0;
            barredAct = NONE;
            barredWhy = NONE;
            hearings = 0;
            wrongAct = NONE;
            wrongHeir = NONE;
        }

        private void attempt(int heir, int kind, int amount) {
            int why = gallery.bar(heir, kind, amount);
            if (why != FINE) {
                barredAct = acts;
                barredWhy = why;
                return;
            }
            if (kind == LISTEN && gallery.hearsOwnBeat(heir)) {
                hearings++;
            }
            if (kind == CHOOSE && wrongAct == NONE && !gallery.standsAtOwn(heir)) {
                wrongAct = acts;
                wrongHeir = heir;
            }
            gallery.act(heir, kind, amount);
            acts++;
        }
    }

    /** What has been seen of one's own CRADLE, and what to ask about next. */
    private static final class Sights {
        private static final int MOST = 8;

        final int[] beats;
        final int[] spans;
        final boolean[] areSo;
        final int[] fittingByBeat;
        int count;
        int question;
        int leftAtMost;

        Sights() {
            beats = new int[MOST];
            spans = new int[MOST];
            areSo = new boolean[MOST];
            fittingByBeat = new int[TOP_BEAT + 1];
        }

        void copyFrom(Sights other) {
            for (int k = 0; k < MOST; k++) {
                beats[k] = other.beats[k];
                spans[k] = other.spans[k];
                areSo[k] = other.areSo[k];
            }
            count = other.count;
        }

        int add(int beat, int span, boolean isSo) {
            if (count >= MOST) {
                return FULL;
            }
            beats[count] = beat;
            spans[count] = span;
            areSo[count] = isSo;
            count++;
            return count;
        }

        int clear() {
            int had = count;
            count = 0;
            return had;
        }

        boolean fit(int beat) {
            for (int k = 0; k < count && k < MOST; k++) {
                if (isNear(beat, beats[k], spans[k]) != areSo[k]) {
                    return false;
                }
            }
            return true;
        }

        /** Finds the question and how many it leaves at the most; NONE for both, if nothing fits. */
        void findQuestion(int[] row) {
            question = NONE;
            leftAtMost = NONE;
            int fitting = countFitting(row);
            if (fitting == 0) {
                return;
            }
            for (int beat = 1; beat <= TOP_BEAT; beat++) {
                for (int span = 0; span < TOP_BEAT; span++) {
                    int near = countNear(beat, span);
                    int left = Math.max(near, fitting - near);
                    if (question == NONE || left < leftAtMost) {
                        question = 10 * beat + span;
                        leftAtMost = left;
                    }
                }
            }
        }

        private int countFitting(int[] row) {
            for (int beat = 0; beat <= TOP_BEAT; beat++) {
                fittingByBeat[beat] = 0;
            }
            int fitting = 0;
            for (int place = 0; place < row.length; place++) {
                int beat = row[place];
                if (isBeat(beat) && fit(beat)) {
                    fittingByBeat[beat]++;
                    fitting++;
                }
            }
            return fitting;
        }

        private int countNear(int middle, int span) {
            int near = 0;
            for (int beat = 1; beat <= TOP_BEAT; beat++) {
                if (isNear(beat, middle, span)) {
                    near += fittingByBeat[beat];
                }
            }
            return near;
        }

        private static boolean isNear(int beat, int middle, int span) {
            return Math.abs(beat - middle) <= span;
        }
    }

    /** The longest row of BEATS that never falls, any being left out. */
    private static final class Rising {
        // By BEAT: the longest such row, among the CRADLES looked at so far, that begins with it.
        final int[] longestByBeat;
        int most;
        int first;

        Rising() {
            longestByBeat = new int[TOP_BEAT + 1];
        }

        void measure(int[] beats, int from) {
            for (int beat = 0; beat <= TOP_BEAT; beat++) {
                longestByBeat[beat] = 0;
            }
            most = 0;
            first = from;
            // From the end on, so that of equally long rows the one that begins first is seen last.
            for (int place = beats.length - 1; place >= from && place >= 0; place--) {
                int beat = beats[place];
                if (!isBeat(beat)) {
                    continue;
                }
                int length = 1 + longestFrom(beat);
                longestByBeat[beat] = length;
                if (length >= most) {
                    most = length;
                    first = place;
                }
            }
        }

        private int longestFrom(int least) {
            int longest = 0;
            for (int beat = least; beat <= TOP_BEAT; beat++) {
                longest = Math.max(longest, longestByBeat[beat]);
            }
            return longest;
        }
    }

    /** In what order to look, for the least time. Rows of digits are read from the left. */
    private static final class Seeking {
        private static final int MOST = 9;
        private static final int[] TENS = {
            1, 10, 100, 1000, 10000, 100000, 1000000, 10000000, 100000000, 1000000000
        };

        static boolean isAsTold(int odds, int minutes, int n) {
            return isRow(odds, n) && isRow(minutes, n);
        }

        private static boolean isRow(int row, int n) {
            if (!isWithin(n, 1, MOST) || row < TENS[n - 1] || row / TENS[n] != 0) {
                return false;
            }
            for (int i = 0; i < n; i++) {
                if (digit(row, n, i) == 0) {
                    return false;
                }
            }
            return true;
        }

        private static int digit(int row, int n, int i) {
            int place = n - 1 - i;
            return isWithin(place, 0, MOST) ? row / TENS[place] % 10 : 0;
        }

        static long digitSum(int row, int n) {
            long sum = 0;
            for (int i = 0; i < n; i++) {
                sum += digit(row, n, i);
            }
            return sum;
        }

        /**
         * The least sum of odds times time. Of any two CRADLES the later one waits for the earlier one;
         * the order by odds over minutes makes this the least for every pair at once.
         */
        static long leastSum(int odds, int minutes, int n) {
            long sum = 0;
            for (int i = 0; i < n; i++) {
                sum += digit(odds, n, i) * digit(minutes, n, i);
                for (int j = i + 1; j < n; j++) {
                    int firstWaits = digit(odds, n, i) * digit(minutes, n, j);
                    int secondWaits = digit(odds, n, j) * digit(minutes, n, i);
                    sum += Math.min(firstWaits, secondWaits);
                }
            }
            return sum;
        }

        static int first(int odds, int minutes, int n) {
            int best = 0;
            for (int i = 1; i < n; i++) {
                int ofThis = digit(odds, n, i) * digit(minutes, n, best);
                int ofBest = digit(odds, n, best) * digit(minutes, n, i);
                if (ofThis > ofBest) {
                    best = i;
                }
            }
            return best;
        }
    }

    /** How an abbess mixes: each mixing doubles a number left over by n less 1; the last one stays. */
    private static final class Mixing {
        static int placeBehind(int n, int i, int m) {
            int ring = n - 1;
            if (ring < 1 || i >= ring) {
                return i;
            }
            int place = i;
            int factor = 2 % ring;
            for (int rest = m; rest > 0; rest /= 2) {
                if (rest % 2 == 1) {
                    place = place * factor % ring;
                }
                factor = factor * factor % ring;
            }
            return place;
        }

        static int round(int n) {
            int ring = n - 1;
            if (ring < 1) {
                return 1;
            }
            int power = 2 % ring;
            int mixings = 1;
            // The powers of 2 come round within fewer than n mixings.
            for (int k = 0; k < n && power != 1 % ring; k++) {
                power = power * 2 % ring;
                mixings++;
            }
            return mixings;
        }
    }

    /** How likely the best one is taken: weights whose whole is the same for every r. */
    private static final class Passing {
        static final int MOST = 20;

        // Every number from 1 to 19 divides it.
        private static final long SHARES = 232792560L;

        static long whole(int n) {
            return n * SHARES;
        }

        /** That the best one is k-th (0 on) and the best of the k ahead of it was passed by: 1/n times r/k. */
        static long weight(int n, int r) {
            if (r < 1) {
                return SHARES;
            }
            long sum = 0;
            for (int k = r; k < n; k++) {
                sum += SHARES / k;
            }
            return r * sum;
        }

        static int best(int n) {
            int best = 0;
            for (int r = 1; r < n; r++) {
                if (weight(n, r) > weight(n, best)) {
                    best = r;
                }
            }
            return best;
        }
    }
}
