import java.util.Arrays;

/** A carriage of riders in a row of seats, told as a text; see README.md and the document. */
public final class SeasonSeat {
    public static final int NONE = -1;

    private static final int NO_SUCH = -2;
    private static final int NO_NUMBER = -3;
    private static final int TOO_MANY = -4;
    private static final int NOT_NOW = -5;
    private static final int TRAY_MISSING = -6;
    private static final int NO_PLACE = -7;
    private static final int DEED_REFUSED = -10;
    private static final int TEXT_REFUSED = -30;

    private static final int MOST_BYTES = 900;
    private static final int MOST_RIDERS = 4;
    private static final int MOST_WARMTH = 4;
    private static final int WARMTHS = 5;
    private static final int SEASONS = 4;
    private static final int MONTHS = 10;
    private static final int STOP_KINDS = 4;
    private static final int SEATINGS = 24;
    private static final int TRAYS = 4;
    private static final int IMAGES = 2;
    private static final int MOST_NUMBERS = 40;
    private static final int MOST_UNDONE = 10;
    private static final int LOTS = 10;

    private static final int FIRST_RUG = 10;
    private static final int FIRST_MONTH = 20;
    private static final int FIRST_GIVE = 100;
    private static final int LAST_GIVE = 199;

    private static final int NO_SUCH_PLACE = 1;
    private static final int AGAINST_THE_LAW = 2;

    /** How many ways warmths can be for 0, 1, 2 .. riders; also what one rider's warmth weighs in a code of all. */
    private static final int[] POWERS = {1, 5, 25, 125, 625};
    /** How many ways 0, 1, 2 .. riders can sit. */
    private static final int[] FACTORIALS = {1, 1, 2, 6, 24};

    // What a law is made of: numbers from 0 on stand for themselves, a law's names and workings are below 0.
    private static final int NAME_RIDER = -1;
    private static final int NAME_SEASON = -2;
    private static final int NAME_CLASS = -3;
    private static final int NAME_WARMTH = -4;
    private static final int NAME_SEAT = -5;
    private static final int NAME_MONTH = -6;
    private static final int NAME_BESIDE = -7;
    private static final int NAME_HEAT = -8;
    private static final int NAME_SAME = -9;
    private static final int WORK_PLUS = -10;
    private static final int WORK_MINUS = -11;
    private static final int WORK_TIMES = -12;
    private static final int WORK_EQUAL = -13;
    private static final int WORK_BELOW = -14;
    private static final int WORK_ABOVE = -15;
    private static final int WORK_NOT = -16;
    private static final int WORK_AND = -17;
    private static final int WORK_OR = -18;
    private static final int WORK_CHOOSE = -19;

    private final byte[] tape = new byte[MOST_BYTES];
    private int tapeLength = 0;
    private Carriage carriage = new Carriage();
    private final Stand now = new Stand();
    private final Stand trial = new Stand();
    private final Past past = new Past();
    /** What the draws of a journey go on from. */
    private int drawn = 0;
    private final Tray[] trays = new Tray[TRAYS];
    /** What the images have; one without a carriage was not made yet. */
    private final Carriage[] imageCarriages = new Carriage[IMAGES];
    private final Stand[] imageStands = new Stand[IMAGES];
    private final Reader reader = new Reader();
    private final Seatings seatings = new Seatings();
    private final Climate climate = new Climate(seatings, true);
    /** The laws in seasons and months that are only supposed, so that what is known of the real ones stays. */
    private final Climate supposed = new Climate(seatings, false);
    private final Idling idling = new Idling();
    /** Made when first asked for, as large as the riders need: most carriages never need the largest. */
    private Rows rowsKnown = null;
    private Forcing forcingKnown = null;

    public SeasonSeat() {
        for (int i = 0; i < trays.length; i++) {
            trays[i] = new Tray();
        }
        for (int i = 0; i < imageStands.length; i++) {
            imageStands[i] = new Stand();
        }
        climate.enter(carriage);
        supposed.enter(carriage);
    }

    // ---- the carriage

    public int feed(int a, int b, int c, int d, int e) {
        if (tapeLength + 20 > MOST_BYTES) {
            return NOT_NOW;
        }
        putInt(a);
        putInt(b);
        putInt(c);
        putInt(d);
        putInt(e);
        return tapeLength;
    }

    private void putInt(int v) {
        for (int shift = 24; shift >= 0 && tapeLength < MOST_BYTES; shift -= 8) {
            tape[tapeLength] = (byte) (v >> shift);
            tapeLength++;
        }
    }

    public int train(int n) {
        if (n < 0 || n > tapeLength) {
            return NO_NUMBER;
        }
        tapeLength = 0;
        Carriage told = reader.readAll(tape, n);
        if (reader.faultKind != 0) {
            return TEXT_REFUSED - reader.faultKind;
        }
        now.begin(told);
        board(told);
        return told.lines;
    }

    private void board(Carriage told) {
        carriage = told;
        climate.enter(told);
        supposed.enter(told);
        past.forget();
    }

    public int fault(int what) {
        if (what == 0) {
            return reader.faultKind;
        }
        return what == 1 ? reader.faultPlace : NONE;
    }

    public int rider(int r, int what) {
        if (!isRider(r)) {
            return NO_SUCH;
        }
        switch (what) {
            case 0:
                return seasonOf(now.seasons, r);
            case 1:
                return carriage.classes[r];
            case 2:
                return warmthOf(now.warm, r);
            case 3:
                return seatings.seatOf(now.seating, r);
            default:
                return what >= 10 && what < 10 + SEASONS ? carriage.liking(r, what - 10) : NO_SUCH;
        }
    }

    public int seat(int s) {
        return isRider(s) ? seatings.riderIn(now.seating, s) : NO_SUCH;
    }

    public int why(int deed) {
        return lawsNow().whyNot(deed, now.warm, now.seating);
    }

    public int by(int deed, int r) {
        if (!isRider(r)) {
            return NO_SUCH;
        }
        Climate laws = lawsNow();
        if (laws.whyNot(deed, now.warm, now.seating) != 0) {
            return NOT_NOW;
        }
        return warmthOf(laws.behind(now.warm, seatings.changed(now.seating, deed)), r);
    }

    /** There are as many seats as riders, so this is the test for both. */
    private boolean isRider(long r) {
        return r >= 0 && r < carriage.riders;
    }

    private Climate lawsNow() {
        climate.suppose(now.seasons, now.month);
        return climate;
    }

    // ---- deeds

    public int stop(int deed) {
        if (deed < 0 || deed >= STOP_KINDS) {
            return DEED_REFUSED - NO_SUCH_PLACE;
        }
        int why = doAlone(deed);
        return why == 0 ? leastOf(now.warm, carriage.riders) : DEED_REFUSED - why;
    }

    public int stops(int n) {
        if (n < 1 || n > 99) {
            return NO_NUMBER;
        }
        past.keep(now);
        for (int i = 0; i < n; i++) {
            act(climate, now, 0);
        }
        return leastOf(now.warm, carriage.riders);
    }

    public int give(int r, int other) {
        if (!isRider(r) || !isRider(other)) {
            return DEED_REFUSED - NO_SUCH_PLACE;
        }
        int why = doAlone(FIRST_GIVE + r * 10 + other);
        return why == 0 ? seasonOf(now.seasons, r) : DEED_REFUSED - why;
    }

    public int rug(int r) {
        if (!isRider(r)) {
            return DEED_REFUSED - NO_SUCH_PLACE;
        }
        int had = warmthOf(now.warm, r);
        doAlone(FIRST_RUG + r);
        return had;
    }

    public int month(int n) {
        if (n < 0 || n >= MONTHS) {
            return DEED_REFUSED - NO_SUCH_PLACE;
        }
        int was = now.month;
        doAlone(FIRST_MONTH + n);
        return was;
    }

    public int undo(int n) {
        if (n < 1 || n > past.size) {
            return NO_NUMBER;
        }
        past.bringBack(n, now);
        return past.size;
    }

    public int judge(int tray, int what) {
        Tray told = trayAt(tray);
        if (told == null || what < 0 || what > 3) {
            return NO_SUCH;
        }
        if (told.isMissing()) {
            return TRAY_MISSING;
        }
        trial.copy(now);
        int done = actAll(supposed, trial, told);
        switch (what) {
            case 0:
                return done < told.size ? done : NONE;
            case 1:
                // What was refused once is refused again and changes nothing, so it can be asked anew.
                return done < told.size ? act(supposed, trial, told.numberAt(done)) : 0;
            case 2:
                return sumOf(trial.warm, carriage.riders);
            default:
                return carriage.riders > 0 ? seatings.riderIn(trial.seating, 0) : NONE;
        }
    }

    public int perform(int tray) {
        Tray told = trayAt(tray);
        if (told == null) {
            return NO_SUCH;
        }
        if (told.isMissing()) {
            return TRAY_MISSING;
        }
        trial.copy(now);
        int done = actAll(climate, now, told);
        if (done > 0) {
            past.keep(trial);
        }
        return done;
    }

    public int journey(int seed, int times) {
        if (times < 1 || times > 40) {
            return NO_NUMBER;
        }
        trial.copy(now);
        drawn = seed;
        int done = 0;
        for (int i = 0; i < times; i++) {
            if (act(climate, now, deedDrawn()) == 0) {
                done++;
            }
        }
        if (done > 0) {
            past.keep(trial);
        }
        return done;
    }

    private int deedDrawn() {
        switch (draw(6)) {
            case 3:
                return FIRST_RUG + draw(4);
            case 4:
                return FIRST_MONTH + draw(MONTHS);
            case 5:
                int first = draw(4);
                return FIRST_GIVE + first * 10 + draw(4);
            default:
                return draw(STOP_KINDS);
        }
    }

    private int draw(int modulo) {
        drawn = 1103515245 * drawn + 12345;
        return modulo < 1 ? 0 : (drawn >>> 16) % modulo;
    }

    /** Does one deed as a call of its own: why not, or 0. */
    private int doAlone(int deed) {
        trial.copy(now);
        int why = act(climate, now, deed);
        if (why == 0) {
            past.keep(trial);
        }
        return why;
    }

    /** Does deeds till one can't be: how many. */
    private int actAll(Climate laws, Stand stand, Tray told) {
        int done = 0;
        while (done < told.size && act(laws, stand, told.numberAt(done)) == 0) {
            done++;
        }
        return done;
    }

    /** Does a deed in a stand: why not (then all stays there), or 0. */
    private int act(Climate laws, Stand stand, long deed) {
        if (deed >= 0 && deed < STOP_KINDS) {
            return actStop(laws, stand, (int) deed);
        }
        if (deed >= FIRST_RUG && deed < FIRST_MONTH && isRider(deed - FIRST_RUG)) {
            int r = (int) deed - FIRST_RUG;
            stand.warm = withWarmth(stand.warm, r, MOST_WARMTH);
            return 0;
        }
        if (deed >= FIRST_MONTH && deed < FIRST_MONTH + MONTHS) {
            stand.month = (int) deed - FIRST_MONTH;
            return 0;
        }
        if (deed >= FIRST_GIVE && deed <= LAST_GIVE) {
            int both = (int) deed - FIRST_GIVE;
            return actGive(stand, both / 10, both % 10);
        }
        return NO_SUCH_PLACE;
    }

    private int actStop(Climate laws, Stand stand, int deed) {
        laws.suppose(stand.seasons, stand.month);
        int why = laws.whyNot(deed, stand.warm, stand.seating);
        if (why == 0) {
            stand.seating = seatings.changed(stand.seating, deed);
            stand.warm = laws.behind(stand.warm, stand.seating);
            stand.stops++;
        }
        return why;
    }

    private int actGive(Stand stand, int r, int other) {
        if (!isRider(r) || !isRider(other) || r == other) {
            return NO_SUCH_PLACE;
        }
        int one = seasonOf(stand.seasons, r);
        int two = seasonOf(stand.seasons, other);
        stand.seasons = withSeason(withSeason(stand.seasons, r, two), other, one);
        return 0;
    }

    // ---- settling

    public int lies(int r, int n) {
        if (!isRider(r)) {
            return NO_SUCH;
        }
        if (n < 0 || n > 99999) {
            return NO_NUMBER;
        }
        return warmthOf(settled().warmBehind(n), r);
    }

    public int round(int what) {
        if (what < 0 || what > 1) {
            return NO_SUCH;
        }
        Idling course = settled();
        return what == 0 ? course.entry : course.period;
    }

    public int when(int k) {
        if (!isWarmth(k)) {
            return NO_NUMBER;
        }
        return settled().firstWarm(k, carriage.riders);
    }

    private Idling settled() {
        idling.settle(lawsNow(), now.warm, now.seating);
        return idling;
    }

    private static boolean isWarmth(long k) {
        return k >= 0 && k <= MOST_WARMTH;
    }

    // ---- warm enough

    public int soonest(int k) {
        if (!isWarmth(k)) {
            return NO_NUMBER;
        }
        Rows all = rowsNow();
        return all.stopsTo(all.firstWarm(k));
    }

    public int way(int k, int i) {
        if (!isWarmth(k) || i < 0) {
            return NO_NUMBER;
        }
        Rows all = rowsNow();
        return all.deedTo(all.firstWarm(k), i);
    }

    public long rows(int k, int n) {
        if (!isWarmth(k) || n < 0 || n > 12) {
            return NO_NUMBER;
        }
        return rowsNow().howManyWarm(k, n);
    }

    public int keeps(int k) {
        return isWarmth(k) ? rowsNow().longestWarm(k) : NO_NUMBER;
    }

    public int most(int r) {
        return isRider(r) ? rowsNow().greatestWarmth(r) : NO_SUCH;
    }

    public int stands() {
        return rowsNow().openAll();
    }

    /** The rows from now on, kept from call to call as long as nothing is done. */
    private Rows rowsNow() {
        int states = POWERS[carriage.riders] * FACTORIALS[carriage.riders];
        if (rowsKnown == null || rowsKnown.size() < states) {
            rowsKnown = new Rows(seatings, states);
        }
        rowsKnown.begin(lawsNow(), now.warm, now.seating);
        return rowsKnown;
    }

    public int placing(int n, int what) {
        if (what != 0 && what != 1 && !isRider((long) what - 10)) {
            return NO_SUCH;
        }
        if (n < 0 || n > 20) {
            return NO_NUMBER;
        }
        if (carriage.riders == 0) {
            return NONE;
        }
        int best = 0;
        int bestWarm = warmWhenSeated(0, n);
        for (int way = 1; way < FACTORIALS[carriage.riders]; way++) {
            int warm = warmWhenSeated(way, n);
            if (isBetter(warm, way, bestWarm, best)) {
                best = way;
                bestWarm = warm;
            }
        }
        if (what == 0) {
            return leastOf(bestWarm, carriage.riders);
        }
        return what == 1 ? sumOf(bestWarm, carriage.riders) : seatings.seatOf(best, what - 10);
    }

    private int warmWhenSeated(int seating, int n) {
        Climate laws = lawsNow();
        int warm = now.warm;
        for (int i = 0; i < n; i++) {
            warm = laws.behind(warm, seating);
        }
        return warm;
    }

    private boolean isBetter(int warm, int seating, int thanWarm, int thanSeating) {
        int least = leastOf(warm, carriage.riders);
        int thanLeast = leastOf(thanWarm, carriage.riders);
        if (least != thanLeast) {
            return least > thanLeast;
        }
        int sum = sumOf(warm, carriage.riders);
        int thanSum = sumOf(thanWarm, carriage.riders);
        if (sum != thanSum) {
            return sum > thanSum;
        }
        return seatings.orderOf(seating) < seatings.orderOf(thanSeating);
    }

    // ---- tickets

    public int trades(int r, int what) {
        if (!isRider(r) || what < 0 || what > 1) {
            return NO_SUCH;
        }
        Trading trading = new Trading(carriage, now.seasons);
        return what == 0 ? trading.ticket[r] : trading.time[r];
    }

    public int glad() {
        Trading trading = new Trading(carriage, now.seasons);
        int glad = 0;
        for (int r = 0; r < carriage.riders; r++) {
            int own = carriage.liking(r, seasonOf(now.seasons, r));
            if (carriage.liking(r, seasonOf(now.seasons, trading.ticket[r])) > own) {
                glad++;
            }
        }
        return glad;
    }

    // ---- felt

    public int seasons(int tray, int r) {
        int refused = refusedFelt(tray, r);
        return refused != 0 ? refused : seasonsFelt(trays[tray], r);
    }

    public int months(int tray, int r) {
        int refused = refusedFelt(tray, r);
        if (refused != 0) {
            return refused;
        }
        int found = 0;
        for (int m = 0; m < MONTHS; m++) {
            supposed.suppose(now.seasons, m);
            if (isFelt(trays[tray], r)) {
                found |= 1 << m;
            }
        }
        return found;
    }

    public int attempt(int tray, int r) {
        int refused = refusedFelt(tray, r);
        if (refused != 0) {
            return refused;
        }
        int found = seasonsFelt(trays[tray], r);
        int best = NONE;
        int fewest = SEASONS + 1;
        for (int deed = 0; deed < STOP_KINDS && found != 0; deed++) {
            int alike = mostAlike(found, r, deed);
            if (alike < fewest) {
                fewest = alike;
                best = deed;
            }
        }
        return best;
    }

    private int refusedFelt(int tray, int r) {
        Tray felt = trayAt(tray);
        if (felt == null || !isRider(r)) {
            return NO_SUCH;
        }
        if (felt.isMissing()) {
            return TRAY_MISSING;
        }
        if (felt.size < 1 || felt.size > 10) {
            return TOO_MANY;
        }
        for (int i = 0; i < felt.size; i++) {
            if (!isWarmth(felt.numberAt(i))) {
                return NO_NUMBER;
            }
        }
        return 0;
    }

    private int seasonsFelt(Tray felt, int r) {
        int found = 0;
        for (int season = 0; season < SEASONS; season++) {
            supposed.suppose(withSeason(now.seasons, r, season), now.month);
            if (isFelt(felt, r)) {
                found |= 1 << season;
            }
        }
        return found;
    }

    /** Whether the supposed season and month bring the warmths that were felt. */
    private boolean isFelt(Tray felt, int r) {
        int warm = now.warm;
        for (int i = 0; i < felt.size; i++) {
            warm = supposed.behind(warm, now.seating);
            if (warmthOf(warm, r) != felt.numberAt(i)) {
                return false;
            }
        }
        return true;
    }

    /** The greatest number of the seasons found that a stop would not tell from one another. */
    private int mostAlike(int found, int r, int deed) {
        int[] brought = new int[SEASONS];
        int most = 0;
        for (int season = 0; season < SEASONS; season++) {
            brought[season] = NONE;
            if ((found >> season & 1) != 0) {
                brought[season] = broughtBy(withSeason(now.seasons, r, season), deed);
                int alike = 0;
                for (int other = 0; other <= season; other++) {
                    alike += brought[other] == brought[season] ? 1 : 0;
                }
                most = Math.max(most, alike);
            }
        }
        return most;
    }

    private int broughtBy(int seasons, int deed) {
        supposed.suppose(seasons, now.month);
        if (supposed.whyNot(deed, now.warm, now.seating) != 0) {
            return now.warm;
        }
        return supposed.behind(now.warm, seatings.changed(now.seating, deed));
    }

    // ---- by turns

    public int forces(int r, int k) {
        if (!isRider(r)) {
            return NO_SUCH;
        }
        if (!isWarmth(k)) {
            return NO_NUMBER;
        }
        return warmthOf(now.warm, r) >= k ? 0 : forcingNow(r, k).fewest();
    }

    public int best(int r, int k) {
        if (!isRider(r)) {
            return NO_SUCH;
        }
        if (!isWarmth(k)) {
            return NO_NUMBER;
        }
        return warmthOf(now.warm, r) >= k ? NONE : forcingNow(r, k).firstDeed(rowsNow());
    }

    private Forcing forcingNow(int r, int k) {
        Rows all = rowsNow();
        if (forcingKnown == null || forcingKnown.size() < all.size()) {
            forcingKnown = new Forcing(all.size());
        }
        all.openTo(all.size());
        forcingKnown.solve(all, r, k);
        return forcingKnown;
    }

    // ---- chances

    public int chance(int k, int n, int what) {
        if (what < 0 || what > 1) {
            return NO_SUCH;
        }
        if (!isWarmth(k) || n < 0 || n > 6) {
            return NO_NUMBER;
        }
        idling.drawLots(lawsNow(), now.warm, now.seating, n);
        return inLowestTerms(idling.casesWarm(k, carriage.riders), idling.allCases, what);
    }

    public int mean(int n, int what) {
        if (what < 0 || what > 1) {
            return NO_SUCH;
        }
        if (n < 0 || n > 6) {
            return NO_NUMBER;
        }
        idling.drawLots(lawsNow(), now.warm, now.seating, n);
        return inLowestTerms(idling.warmthInAllCases(carriage.riders), idling.allCases, what);
    }

    private static int inLowestTerms(int above, int below, int what) {
        int a = above;
        int b = below;
        // Euclid's way takes fewer than 50 rounds on ints.
        for (int i = 0; i < 100 && b != 0; i++) {
            int rest = a % b;
            a = b;
            b = rest;
        }
        int wanted = what == 0 ? above : below;
        return a == 0 ? wanted : wanted / a;
    }

    // ---- trays, images

    public int numbers(int tray, int sort, int n) {
        Tray told = trayAt(tray);
        if (told == null || sort < 0 || sort > 3) {
            return NO_SUCH;
        }
        if (n < 0 || n > MOST_NUMBERS) {
            return NO_NUMBER;
        }
        told.make(sort, n);
        return 0;
    }

    public long write(int tray, int i, long v) {
        Tray told = trayAt(tray);
        if (told == null) {
            return NO_SUCH;
        }
        if (told.isMissing()) {
            return TRAY_MISSING;
        }
        if (i < 0 || i >= told.size) {
            return NO_PLACE;
        }
        told.put(i, v);
        return told.numberAt(i);
    }

    public int lists(int tray, int r) {
        Tray told = trayAt(tray);
        if (told == null || !isRider(r)) {
            return NO_SUCH;
        }
        if (told.isMissing()) {
            return TRAY_MISSING;
        }
        Idling course = settled();
        for (int i = 0; i < told.size; i++) {
            told.put(i, warmthOf(course.warmBehind(i + 1), r));
        }
        return told.size;
    }

    public int image(int i) {
        if (i < 0 || i >= IMAGES) {
            return NO_SUCH;
        }
        imageCarriages[i] = carriage;
        imageStands[i].copy(now);
        return 0;
    }

    public int restore(int i) {
        if (i < 0 || i >= IMAGES) {
            return NO_SUCH;
        }
        Carriage kept = imageCarriages[i];
        if (kept == null) {
            return NOT_NOW;
        }
        now.copy(imageStands[i]);
        board(kept);
        return 0;
    }

    public int count(int what) {
        switch (what) {
            case 0:
                return carriage.riders;
            case 1:
                return now.month;
            case 2:
                return sumOf(now.warm, carriage.riders);
            case 3:
                return carriage.riders == 0 ? NONE : leastOf(now.warm, carriage.riders);
            case 4:
                return ridersElsewhere();
            case 5:
                return now.stops;
            case 6:
                return past.size;
            case 7:
                return tapeLength;
            case 8:
                return carriage.lines;
            default:
                return NONE;
        }
    }

    private int ridersElsewhere() {
        int found = 0;
        for (int r = 0; r < carriage.riders; r++) {
            if (seatings.seatOf(now.seating, r) != r) {
                found |= 1 << r;
            }
        }
        return found;
    }

    private Tray trayAt(int tray) {
        return tray >= 0 && tray < trays.length ? trays[tray] : null;
    }

    // ---- codes: all warmths in one number (of base 5), all seasons in one (of base 4)

    private static int warmthOf(int warm, int r) {
        return r < 0 || r >= MOST_RIDERS ? 0 : warm / POWERS[r] % WARMTHS;
    }

    private static int withWarmth(int warm, int r, int warmth) {
        return r < 0 || r >= MOST_RIDERS ? warm : warm + (warmth - warmthOf(warm, r)) * POWERS[r];
    }

    private static int leastOf(int warm, int riders) {
        int least = MOST_WARMTH;
        int rest = warm;
        for (int r = 0; r < riders; r++) {
            least = Math.min(least, rest % WARMTHS);
            rest /= WARMTHS;
        }
        return least;
    }

    private static int sumOf(int warm, int riders) {
        int sum = 0;
        int rest = warm;
        for (int r = 0; r < riders; r++) {
            sum += rest % WARMTHS;
            rest /= WARMTHS;
        }
        return sum;
    }

    private static int seasonOf(int seasons, int r) {
        return seasons >> 2 * r & 3;
    }

    private static int withSeason(int seasons, int r, int season) {
        return seasons & ~(3 << 2 * r) | season << 2 * r;
    }

    /** What a text tells; it never changes once it is read, so images may share it. */
    private static final class Carriage {
        private int riders = 0;
        private int lines = 0;
        private int month = 0;
        private int seasons = 0;
        private int warm = 0;
        private final int[] classes = new int[MOST_RIDERS];
        private final int[] likes = new int[MOST_RIDERS * SEASONS];
        private int[] warmsLaw = null;
        private int[] mayLaw = null;

        private int liking(int r, int season) {
            int place = r * SEASONS + season;
            return place < 0 || place >= likes.length ? 0 : likes[place];
        }
    }

    /** All that deeds change. */
    private static final class Stand {
        private int seasons = 0;
        private int warm = 0;
        private int seating = 0;
        private int month = 0;
        private int stops = 0;

        private void begin(Carriage told) {
            seasons = told.seasons;
            warm = told.warm;
            seating = 0;
            month = told.month;
            stops = 0;
        }

        private void copy(Stand other) {
            seasons = other.seasons;
            warm = other.warm;
            seating = other.seating;
            month = other.month;
            stops = other.stops;
        }
    }

    /** The stands ahead of the latest calls that did some; a ring, so that the eldest is written over. */
    private static final class Past {
        private final Stand[] stands = new Stand[MOST_UNDONE];
        private int next = 0;
        private int size = 0;

        private Past() {
            for (int i = 0; i < stands.length; i++) {
                stands[i] = new Stand();
            }
        }

        private void keep(Stand stand) {
            stands[next].copy(stand);
            next = (next + 1) % MOST_UNDONE;
            size = Math.min(size + 1, MOST_UNDONE);
        }

        private void bringBack(int n, Stand into) {
            next = Math.floorMod(next - n, MOST_UNDONE);
            size -= n;
            into.copy(stands[next]);
        }

        private void forget() {
            size = 0;
        }
    }

    private static final class Tray {
        private final long[] numbers = new long[MOST_NUMBERS];
        private int sort = 0;
        private int size = NONE;

        private boolean isMissing() {
            return size < 0;
        }

        private void make(int newSort, int n) {
            sort = newSort;
            size = n;
            Arrays.fill(numbers, 0L);
        }

        private long numberAt(int i) {
            return i < 0 || i >= numbers.length ? 0L : numbers[i];
        }

        private void put(int i, long v) {
            if (i < 0 || i >= numbers.length) {
                return;
            }
            switch (sort) {
                case 0:
                    numbers[i] = (byte) v;
                    break;
                case 1:
                    numbers[i] = (short) v;
                    break;
                case 2:
                    numbers[i] = (int) v;
                    break;
                default:
                    numbers[i] = v;
                    break;
            }
        }
    }

    /** Who gets whose ticket, so that no ring of riders could do better. */
    private static final class Trading {
        private final Carriage carriage;
        private final int seasons;
        private final int[] points = new int[MOST_RIDERS];
        private final int[] ticket = new int[MOST_RIDERS];
        private final int[] time = new int[MOST_RIDERS];

        private Trading(Carriage told, int seasonsNow) {
            carriage = told;
            seasons = seasonsNow;
            int left = (1 << told.riders) - 1;
            // Each time finds a ring, so there are no more times than riders.
            for (int round = 0; round < told.riders && left != 0; round++) {
                left = afterRings(left, round);
            }
        }

        private int afterRings(int left, int round) {
            for (int r = 0; r < carriage.riders; r++) {
                points[r] = favourite(r, left);
            }
            int still = left;
            for (int r = 0; r < carriage.riders; r++) {
                if ((left >> r & 1) != 0 && isOnRing(r)) {
                    ticket[r] = points[r];
                    time[r] = round;
                    still &= ~(1 << r);
                }
            }
            return still;
        }

        /** Whom a rider that is left points to; itself first among likes, then the least. */
        private int favourite(int r, int left) {
            int found = r;
            for (int other = 0; other < carriage.riders; other++) {
                if ((left >> other & 1) != 0 && likingOf(r, other) > likingOf(r, found)) {
                    found = other;
                }
            }
            return found;
        }

        private int likingOf(int r, int other) {
            return carriage.liking(r, seasonOf(seasons, other));
        }

        private boolean isOnRing(int r) {
            int at = r;
            for (int i = 0; i < carriage.riders; i++) {
                at = points[at];
                if (at == r) {
                    return true;
                }
            }
            return false;
        }
    }

    /** Every way in which up to four riders sit; of n riders just the first n! ways, way 0 being at first. */
    private static final class Seatings {
        private final int[] seats = new int[SEATINGS * MOST_RIDERS];
        private final int[] riders = new int[SEATINGS * MOST_RIDERS];
        private final int[] changes = new int[SEATINGS * STOP_KINDS];
        private final int[] orders = new int[SEATINGS];

        private Seatings() {
            int[] wayOf = new int[256];
            int ways = 0;
            for (int n = 1; n <= MOST_RIDERS; n++) {
                for (int order = 0; order < 256; order++) {
                    if (movesJust(order, n) && ways < SEATINGS) {
                        wayOf[order] = ways;
                        note(ways, order);
                        ways++;
                    }
                }
            }
            for (int way = 0; way < SEATINGS; way++) {
                for (int deed = 0; deed < STOP_KINDS; deed++) {
                    changes[way * STOP_KINDS + deed] = wayOf[orderBehind(way, deed)];
                }
            }
        }

        /** The seat of a rider in an order, a number of base 4 with rider 0 first, so that less is first. */
        private static int digit(int order, int r) {
            return order >> 2 * (MOST_RIDERS - 1 - r) & 3;
        }

        /** Whether an order is one of n riders and not of fewer. */
        private static boolean movesJust(int order, int n) {
            int taken = 0;
            for (int r = 0; r < MOST_RIDERS; r++) {
                taken |= 1 << digit(order, r);
                if (r >= n && digit(order, r) != r) {
                    return false;
                }
            }
            return taken == 15 && (n == 1 || digit(order, n - 1) != n - 1);
        }

        private void note(int way, int order) {
            orders[way] = order;
            for (int r = 0; r < MOST_RIDERS; r++) {
                seats[way * MOST_RIDERS + r] = digit(order, r);
                riders[way * MOST_RIDERS + digit(order, r)] = r;
            }
        }

        private int orderBehind(int way, int deed) {
            int order = 0;
            for (int r = 0; r < MOST_RIDERS; r++) {
                int seat = seats[way * MOST_RIDERS + r];
                if (deed > 0 && seat == deed) {
                    seat = deed - 1;
                } else if (deed > 0 && seat == deed - 1) {
                    seat = deed;
                }
                order = order * 4 + seat;
            }
            return order;
        }

        private int seatOf(int way, int r) {
            int place = way * MOST_RIDERS + r;
            return place < 0 || place >= seats.length ? 0 : seats[place];
        }

        private int riderIn(int way, int seat) {
            int place = way * MOST_RIDERS + seat;
            return place < 0 || place >= riders.length ? 0 : riders[place];
        }

        private int changed(int way, int deed) {
            int place = way * STOP_KINDS + deed;
            return place < 0 || place >= changes.length ? way : changes[place];
        }

        private int orderOf(int way) {
            return way < 0 || way >= orders.length ? 0 : orders[way];
        }
    }

    /** Reads a text along its tokens; behind the first fault it sees nothing but the end. */
    private static final class Reader {
        private static final int END = 0;
        private static final int WORD = 1;
        private static final int NUMBER = 2;
        private static final int SIGN = 3;
        private static final int UNREADABLE = 4;

        private static final int FAULT_NO_TOKEN = 1;
        private static final int FAULT_NOT_THERE = 2;
        private static final int FAULT_BOUNDS = 3;
        private static final int FAULT_TOO_MANY = 4;

        private static final String SIGNS = ";:+-*()[]=<>";
        private static final int MOST_NESTED = 6;

        private byte[] text = new byte[0];
        private int length = 0;
        private int at = 0;
        private int start = 0;
        private int kind = END;
        private int value = 0;
        private int faultKind = 0;
        private int faultPlace = NONE;
        private Carriage told = new Carriage();
        private boolean inMay = false;
        private int nested = 0;
        private final int[] law = new int[MOST_BYTES];
        private int lawLength = 0;

        /** The carriage of a text, if it has no fault then. */
        private Carriage readAll(byte[] bytes, int n) {
            text = bytes;
            length = Math.min(n, bytes.length);
            at = 0;
            faultKind = 0;
            faultPlace = NONE;
            told = new Carriage();
            advance();
            needWord("train");
            needWord("month");
            told.month = needNumber(MONTHS - 1);
            needSign(';');
            told.lines = 1;
            for (int i = 0; i < MOST_BYTES && kind != END; i++) {
                readLine();
                needSign(';');
                told.lines++;
            }
            return told;
        }

        private void readLine() {
            if (isWord("rider")) {
                readRider();
            } else if (isWord("warms")) {
                advance();
                told.warmsLaw = readLaw(false);
            } else if (isWord("may")) {
                advance();
                told.mayLaw = readLaw(true);
            } else {
                refuse(FAULT_NOT_THERE);
            }
        }

        private void readRider() {
            if (told.riders >= MOST_RIDERS) {
                refuse(FAULT_TOO_MANY);
                return;
            }
            int r = told.riders;
            told.riders++;
            advance();
            needWord("season");
            told.seasons = withSeason(told.seasons, r, needNumber(SEASONS - 1));
            needWord("class");
            told.classes[r] = needNumber(9);
            told.warm = withWarmth(told.warm, r, 2);
            for (int i = 0; i < MOST_BYTES && (isWord("warm") || isWord("likes")); i++) {
                boolean ofWarmth = isWord("warm");
                advance();
                if (ofWarmth) {
                    told.warm = withWarmth(told.warm, r, needNumber(MOST_WARMTH));
                }
                for (int season = 0; season < SEASONS && !ofWarmth; season++) {
                    told.likes[r * SEASONS + season] = needNumber(9);
                }
            }
        }

        private int[] readLaw(boolean ofMay) {
            inMay = ofMay;
            nested = 0;
            lawLength = 0;
            needSign(':');
            if (ofMay) {
                readTruth();
            } else {
                readSum();
            }
            return Arrays.copyOf(law, lawLength);
        }

        // The recursion is kept low by enter(), which refuses a seventh nesting.

        private void readSum() {
            readTerm();
            for (int i = 0; i < MOST_BYTES && (isSign('+') || isSign('-')); i++) {
                int work = isSign('+') ? WORK_PLUS : WORK_MINUS;
                advance();
                readTerm();
                put(work);
            }
        }

        private void readTerm() {
            readAtom();
            for (int i = 0; i < MOST_BYTES && isSign('*'); i++) {
                advance();
                readAtom();
                put(WORK_TIMES);
            }
        }

        private void readAtom() {
            if (kind == NUMBER) {
                put(value);
                advance();
            } else if (isSign('(')) {
                if (enter()) {
                    readSum();
                    needSign(')');
                    nested--;
                }
            } else if (isWord("if")) {
                if (enter()) {
                    readChoice();
                    nested--;
                }
            } else if (nameHere() != 0) {
                put(nameHere());
                advance();
            } else {
                refuse(FAULT_NOT_THERE);
            }
        }

        private void readChoice() {
            readTruth();
            needWord("then");
            readSum();
            needWord("else");
            readSum();
            needWord("end");
            put(WORK_CHOOSE);
        }

        private void readTruth() {
            readBoth();
            for (int i = 0; i < MOST_BYTES && isWord("or"); i++) {
                advance();
                readBoth();
                put(WORK_OR);
            }
        }

        private void readBoth() {
            readUnit();
            for (int i = 0; i < MOST_BYTES && isWord("and"); i++) {
                advance();
                readUnit();
                put(WORK_AND);
            }
        }

        private void readUnit() {
            if (isWord("not")) {
                if (enter()) {
                    readUnit();
                    nested--;
                    put(WORK_NOT);
                }
            } else if (isSign('[')) {
                if (enter()) {
                    readTruth();
                    needSign(']');
                    nested--;
                }
            } else {
                readComparison();
            }
        }

        private void readComparison() {
            readSum();
            int work = WORK_EQUAL;
            if (isSign('<')) {
                work = WORK_BELOW;
            } else if (isSign('>')) {
                work = WORK_ABOVE;
            } else if (!isSign('=')) {
                refuse(FAULT_NOT_THERE);
                return;
            }
            advance();
            readSum();
            put(work);
        }

        private boolean enter() {
            if (nested >= MOST_NESTED) {
                refuse(FAULT_TOO_MANY);
                return false;
            }
            nested++;
            advance();
            return true;
        }

        /** The name that stands here, 0 if it is none that this law knows. */
        private int nameHere() {
            if (isWord("rider")) {
                return NAME_RIDER;
            }
            if (isWord("season")) {
                return NAME_SEASON;
            }
            if (isWord("class")) {
                return NAME_CLASS;
            }
            if (isWord("warmth")) {
                return NAME_WARMTH;
            }
            if (isWord("seat")) {
                return NAME_SEAT;
            }
            if (isWord("month")) {
                return NAME_MONTH;
            }
            if (inMay) {
                return 0;
            }
            if (isWord("beside")) {
                return NAME_BESIDE;
            }
            if (isWord("heat")) {
                return NAME_HEAT;
            }
            return isWord("same") ? NAME_SAME : 0;
        }

        private void put(int part) {
            if (lawLength < law.length) {
                law[lawLength] = part;
                lawLength++;
            }
        }

        private void needWord(String word) {
            if (isWord(word)) {
                advance();
            } else {
                refuse(FAULT_NOT_THERE);
            }
        }

        private void needSign(char sign) {
            if (isSign(sign)) {
                advance();
            } else {
                refuse(FAULT_NOT_THERE);
            }
        }

        /** A number of 0 to most; 0 with a fault. */
        private int needNumber(int most) {
            if (kind != NUMBER) {
                refuse(FAULT_NOT_THERE);
                return 0;
            }
            if (value > most) {
                refuse(FAULT_BOUNDS);
                return 0;
            }
            int told = value;
            advance();
            return told;
        }

        private boolean isSign(char sign) {
            return kind == SIGN && value == sign;
        }

        private boolean isWord(String word) {
            // A word's bytes run from start to at, which the text has.
            if (kind != WORD || at - start != word.length() || at > text.length) {
                return false;
            }
            for (int i = 0; i < word.length(); i++) {
                if (text[start + i] != word.charAt(i)) {
                    return false;
                }
            }
            return true;
        }

        /** The first fault stays; nothing but the end is seen from then on, so that all reading ends. */
        private void refuse(int fault) {
            if (faultKind == 0) {
                faultKind = kind == UNREADABLE ? FAULT_NO_TOKEN : fault;
                faultPlace = start;
            }
            at = length;
            kind = END;
        }

        private void advance() {
            while (at < length && (text[at] == 10 || text[at] == 32)) {
                at++;
            }
            start = at;
            if (at >= length) {
                kind = END;
                return;
            }
            value = text[at] & 255;
            kind = kindOf(value);
            at++;
            if (kind == NUMBER) {
                value -= '0';
            }
            while (at < length && (kind == WORD || kind == NUMBER) && kindOf(text[at] & 255) == kind) {
                value = kind == NUMBER ? Math.min(value, 999) * 10 + text[at] - '0' : 0;
                at++;
            }
            if (kind == NUMBER && at - start > 3) {
                kind = UNREADABLE;
            }
        }

        private static int kindOf(int c) {
            if (c >= 'a' && c <= 'z') {
                return WORD;
            }
            if (c >= '0' && c <= '9') {
                return NUMBER;
            }
            return SIGNS.indexOf((char) c) >= 0 ? SIGN : UNREADABLE;
        }
    }

    /** The laws of a carriage in given seasons and a month; what they tell is kept till one of these changes. */
    private static final class Climate {
        private static final int MOST_HEAT = 2 * MOST_WARMTH;
        private static final int MOST_KEPT = 1000000;

        private final Seatings seatings;
        private final boolean remembers;
        private Carriage carriage = new Carriage();
        private int seasons = 0;
        private int month = 0;
        /** Grows whenever what is kept becomes void; entries bear it, so that none need be cleared. */
        private int stamp = 1;
        private int[] behinds = new int[0];
        private final int[] warmths = new int[MOST_RIDERS * WARMTHS * MOST_RIDERS * (MOST_HEAT + 1) * 3];
        private final int[] leaves = new int[MOST_RIDERS * WARMTHS * MOST_RIDERS];
        private final int[] ahead = new int[MOST_RIDERS];
        private final int[] names = new int[10];
        private final int[] pile = new int[80];

        private Climate(Seatings ways, boolean remember) {
            seatings = ways;
            remembers = remember;
        }

        private void enter(Carriage told) {
            carriage = told;
            seasons = told.seasons;
            month = told.month;
            stamp++;
            int states = POWERS[told.riders] * FACTORIALS[told.riders];
            if (remembers && behinds.length < states) {
                behinds = new int[states];
            }
        }

        private void suppose(int newSeasons, int newMonth) {
            if (newSeasons != seasons || newMonth != month) {
                seasons = newSeasons;
                month = newMonth;
                stamp++;
            }
        }

        /** Why a stop can't be: 0, 1 or 2. */
        private int whyNot(int deed, int warm, int seating) {
            if (deed == 0) {
                return 0;
            }
            if (deed < 0 || deed >= STOP_KINDS || deed >= carriage.riders) {
                return NO_SUCH_PLACE;
            }
            if (carriage.mayLaw == null) {
                return 0;
            }
            int left = seatings.riderIn(seating, deed - 1);
            int right = seatings.riderIn(seating, deed);
            boolean both = mayGo(left, warmthOf(warm, left), deed) && mayGo(right, warmthOf(warm, right), deed - 1);
            return both ? 0 : AGAINST_THE_LAW;
        }

        private boolean mayGo(int r, int warmth, int seat) {
            int place = (r * WARMTHS + warmth) * MOST_RIDERS + seat;
            if (place < 0 || place >= leaves.length) {
                return false;
            }
            if (leaves[place] >> 1 != stamp) {
                nameRider(r, warmth, seat);
                leaves[place] = stamp << 1 | (worked(carriage.mayLaw) != 0 ? 1 : 0);
            }
            return (leaves[place] & 1) != 0;
        }

        /** All warmths behind a stop with the riders so seated. */
        private int behind(int warm, int seating) {
            int place = seating * POWERS[carriage.riders] + warm;
            boolean kept = place >= 0 && place < behinds.length;
            if (kept && behinds[place] >> 10 == stamp) {
                return behinds[place] & 1023;
            }
            int rest = warm;
            for (int r = 0; r < carriage.riders; r++) {
                ahead[r] = rest % WARMTHS;
                rest /= WARMTHS;
            }
            int next = 0;
            for (int r = carriage.riders - 1; r >= 0; r--) {
                next = next * WARMTHS + warmthBehind(r, seating);
            }
            if (kept) {
                behinds[place] = stamp << 10 | next;
            }
            return next;
        }

        /** The warmth of a rider behind a stop; ahead has all as they were. */
        private int warmthBehind(int r, int seating) {
            int seat = seatings.seatOf(seating, r);
            int beside = 0;
            int heat = 0;
            int same = 0;
            for (int next = seat - 1; next <= seat + 1; next += 2) {
                if (next >= 0 && next < carriage.riders) {
                    int other = seatings.riderIn(seating, next);
                    beside++;
                    heat += ahead[other];
                    same += seasonOf(seasons, other) == seasonOf(seasons, r) ? 1 : 0;
                }
            }
            int own = ahead[r];
            if (carriage.warmsLaw == null) {
                return own + (heat > own * beside ? 1 : 0) - (heat < own * beside ? 1 : 0);
            }
            int place = (((r * WARMTHS + own) * MOST_RIDERS + seat) * (MOST_HEAT + 1) + heat) * 3 + same;
            if (place < 0 || place >= warmths.length) {
                return 0;
            }
            if (warmths[place] >> 3 != stamp) {
                nameRider(r, own, seat);
                names[-NAME_BESIDE] = beside;
                names[-NAME_HEAT] = heat;
                names[-NAME_SAME] = same;
                warmths[place] = stamp << 3 | Math.max(0, Math.min(MOST_WARMTH, worked(carriage.warmsLaw)));
            }
            return warmths[place] & 7;
        }

        private void nameRider(int r, int warmth, int seat) {
            names[-NAME_RIDER] = r;
            names[-NAME_SEASON] = seasonOf(seasons, r);
            names[-NAME_CLASS] = r < 0 || r >= MOST_RIDERS ? 0 : carriage.classes[r];
            names[-NAME_WARMTH] = warmth;
            names[-NAME_SEAT] = seat;
            names[-NAME_MONTH] = month;
        }

        /** A law worked out part by part on a pile; truths are 1 and 0. */
        private int worked(int[] law) {
            int high = 0;
            for (int i = 0; law != null && i < law.length; i++) {
                int part = law[i];
                if (part > WORK_PLUS) {
                    if (high < pile.length) {
                        pile[high] = part >= 0 ? part : names[-part];
                        high++;
                    }
                } else if (part == WORK_CHOOSE && high >= 3) {
                    pile[high - 3] = pile[high - 3] != 0 ? pile[high - 2] : pile[high - 1];
                    high -= 2;
                } else if (part == WORK_NOT && high >= 1) {
                    pile[high - 1] = 1 - pile[high - 1];
                } else if (high >= 2) {
                    pile[high - 2] = workedBoth(part, pile[high - 2], pile[high - 1]);
                    high--;
                }
            }
            return high > 0 ? pile[0] : 0;
        }

        private static int workedBoth(int work, int a, int b) {
            switch (work) {
                case WORK_EQUAL:
                    return a == b ? 1 : 0;
                case WORK_BELOW:
                    return a < b ? 1 : 0;
                case WORK_ABOVE:
                    return a > b ? 1 : 0;
                case WORK_AND:
                    return a & b;
                case WORK_OR:
                    return a | b;
                default:
                    break;
            }
            long whole = (long) a * b;
            if (work == WORK_PLUS) {
                whole = (long) a + b;
            } else if (work == WORK_MINUS) {
                whole = (long) a - b;
            }
            if (whole > MOST_KEPT) {
                return MOST_KEPT;
            }
            return whole < -MOST_KEPT ? -MOST_KEPT : (int) whole;
        }
    }

    /** What comes if nothing is done: where all settles and, if lots are drawn for draughts, in how many cases. */
    private static final class Idling {
        private final int[] course = new int[626];
        private final int[] seen = new int[625];
        private int entry = 0;
        private int period = 1;
        private int[] cases = new int[625];
        private int[] later = new int[625];
        private int allCases = 1;

        private void settle(Climate laws, int warm, int seating) {
            Arrays.fill(seen, NONE);
            int next = warm;
            // There are 625 ways of being warm at most, so one comes again by then.
            for (int i = 0; i < course.length && next >= 0 && next < seen.length; i++) {
                course[i] = next;
                if (seen[next] != NONE) {
                    entry = seen[next];
                    period = i - entry;
                    return;
                }
                seen[next] = i;
                next = laws.behind(next, seating);
            }
        }

        private int warmBehind(int n) {
            int place = n < entry || period < 1 ? n : entry + (n - entry) % period;
            return place < 0 || place >= course.length ? 0 : course[place];
        }

        private int firstWarm(int k, int riders) {
            for (int i = 0; i < entry + period && i < course.length; i++) {
                if (leastOf(course[i], riders) >= k) {
                    return i;
                }
            }
            return NONE;
        }

        private void drawLots(Climate laws, int warm, int seating, int n) {
            Arrays.fill(cases, 0);
            Arrays.fill(later, 0);
            allCases = 1;
            if (warm < 0 || warm >= cases.length) {
                return;
            }
            cases[warm] = 1;
            int riders = laws.carriage.riders;
            for (int i = 0; i < n; i++) {
                for (int from = 0; from < POWERS[riders]; from++) {
                    if (cases[from] != 0) {
                        addLots(cases[from], laws.behind(from, seating), riders);
                        cases[from] = 0;
                    }
                }
                int[] spent = cases;
                cases = later;
                later = spent;
                allCases *= LOTS;
            }
        }

        private void addLots(int times, int warm, int riders) {
            for (int lot = 0; lot < LOTS; lot++) {
                int next = warm;
                if (lot < riders && warmthOf(warm, lot) > 0) {
                    next = warm - POWERS[lot];
                }
                if (next >= 0 && next < later.length) {
                    later[next] += times;
                }
            }
        }

        private int casesWarm(int k, int riders) {
            int sum = 0;
            for (int warm = 0; warm < POWERS[riders]; warm++) {
                if (cases[warm] != 0 && leastOf(warm, riders) >= k) {
                    sum += cases[warm];
                }
            }
            return sum;
        }

        private int warmthInAllCases(int riders) {
            int sum = 0;
            for (int warm = 0; warm < POWERS[riders]; warm++) {
                if (cases[warm] != 0) {
                    sum += cases[warm] * sumOf(warm, riders);
                }
            }
            return sum;
        }
    }

    /**
     * The stands that rows lead to, numbered as they are first found, stand 0 being now. A stand is opened when the
     * stands behind it are found; they are opened by their numbers, so that of like rows the first finds a stand.
     */
    private static final class Rows {
        private static final int LEFT = STOP_KINDS + 1;

        private final Seatings seatings;
        /** The code of each stand: seating times the ways of being warm, and warmths. */
        private final int[] codes;
        private final int[] standOf;
        private final int[] from;
        private final int[] next;
        /** How many stops each stand has tried on the search for the longest row; LEFT when all behind it is known. */
        private final int[] tried;
        private final int[] longest;
        private final int[] path;
        private Climate laws = null;
        private int stamp = NONE;
        private int ways = 1;
        private int riders = 0;
        private int known = 0;
        private int opened = 0;
        /** Grows with each new start, so that others see whether what they know of the rows still holds. */
        private int starts = 0;

        private Rows(Seatings all, int states) {
            seatings = all;
            codes = new int[states];
            standOf = new int[states];
            from = new int[states];
            next = new int[states * STOP_KINDS];
            tried = new int[states];
            longest = new int[states];
            path = new int[states];
        }

        private int size() {
            return codes.length;
        }

        private void begin(Climate lawsNow, int warm, int seating) {
            ways = POWERS[lawsNow.carriage.riders];
            int code = seating * ways + warm;
            if (lawsNow.stamp == stamp && known > 0 && codes[0] == code) {
                return;
            }
            laws = lawsNow;
            stamp = lawsNow.stamp;
            riders = lawsNow.carriage.riders;
            known = 0;
            opened = 0;
            starts++;
            standWith(code, NONE);
        }

        /** The number of a stand, which is a new one if it was not found yet. */
        private int standWith(int code, int foundFrom) {
            if (code < 0 || code >= standOf.length) {
                return NONE;
            }
            int stand = standOf[code];
            // An entry that was left by an earlier start fails this test, so none need be cleared.
            if (stand < known && codes[stand] == code) {
                return stand;
            }
            if (known >= codes.length) {
                return NONE;
            }
            codes[known] = code;
            from[known] = foundFrom;
            standOf[code] = known;
            known++;
            return known - 1;
        }

        /** Opens all stands up to this one. */
        private void openTo(int stand) {
            for (; opened <= stand && opened < known && laws != null; opened++) {
                int seating = codes[opened] / ways;
                int warm = codes[opened] % ways;
                for (int deed = 0; deed < STOP_KINDS; deed++) {
                    int found = NONE;
                    if (laws.whyNot(deed, warm, seating) == 0) {
                        int then = seatings.changed(seating, deed);
                        found = standWith(then * ways + laws.behind(warm, then), opened);
                    }
                    next[opened * STOP_KINDS + deed] = found;
                }
            }
        }

        private int openAll() {
            openTo(codes.length);
            return known;
        }

        /** The stand behind a stop in an opened stand, NONE if it can't be. */
        private int nextOf(int stand, int deed) {
            int place = stand * STOP_KINDS + deed;
            return place < 0 || place >= next.length ? NONE : next[place];
        }

        private int warmOf(int stand) {
            return stand < 0 || stand >= codes.length ? 0 : codes[stand] % ways;
        }

        private boolean isWarm(int stand, int k) {
            return leastOf(warmOf(stand), riders) >= k;
        }

        private int firstWarm(int k) {
            for (int stand = 0; stand < known && stand < codes.length; stand++) {
                if (isWarm(stand, k)) {
                    return stand;
                }
                openTo(stand);
            }
            return NONE;
        }

        private int stopsTo(int stand) {
            int stops = NONE;
            for (int at = stand; at >= 0 && at < from.length && stops < from.length; at = from[at]) {
                stops++;
            }
            return stops;
        }

        /** The i-th deed of the first row to a stand. */
        private int deedTo(int stand, int i) {
            int stops = stopsTo(stand);
            if (i < 0 || i >= stops) {
                return NONE;
            }
            int at = stand;
            for (int left = stops - 1; left > i && at > 0; left--) {
                at = from[at];
            }
            for (int deed = 0; deed < STOP_KINDS && at > 0; deed++) {
                if (nextOf(from[at], deed) == at) {
                    return deed;
                }
            }
            return NONE;
        }

        private long howManyWarm(int k, int n) {
            // The search for the longest row is not under way, so its arrays serve for this, too.
            int[] rows = tried;
            int[] later = longest;
            Arrays.fill(rows, 0);
            Arrays.fill(later, 0);
            rows[0] = 1;
            for (int i = 0; i < n; i++) {
                int width = known;
                for (int stand = 0; stand < width; stand++) {
                    if (rows[stand] != 0) {
                        openTo(stand);
                        spread(stand, rows[stand], later);
                        rows[stand] = 0;
                    }
                }
                int[] spent = rows;
                rows = later;
                later = spent;
            }
            long sum = 0;
            for (int stand = 0; stand < known; stand++) {
                if (rows[stand] != 0 && isWarm(stand, k)) {
                    sum += rows[stand];
                }
            }
            return sum;
        }

        private void spread(int stand, int rows, int[] later) {
            for (int deed = 0; deed < STOP_KINDS; deed++) {
                int then = nextOf(stand, deed);
                if (then >= 0 && then < later.length) {
                    later[then] += rows;
                }
            }
        }

        /** The longest row with all warm behind each stop, searched depth first; NONE if one comes round. */
        private int longestWarm(int k) {
            Arrays.fill(tried, NONE);
            Arrays.fill(longest, 0);
            int depth = 1;
            path[0] = 0;
            tried[0] = 0;
            // Each stand is come upon once, tries its four stops once and is left once.
            for (int i = 0; i < 6 * codes.length && depth > 0; i++) {
                int stand = path[depth - 1];
                if (tried[stand] == STOP_KINDS) {
                    tried[stand] = LEFT;
                    depth--;
                    if (depth > 0) {
                        lengthen(path[depth - 1], stand);
                    }
                    continue;
                }
                openTo(stand);
                int then = nextOf(stand, tried[stand]);
                tried[stand]++;
                if (then == NONE || !isWarm(then, k)) {
                    continue;
                }
                if (tried[then] == LEFT) {
                    lengthen(stand, then);
                } else if (tried[then] != NONE || depth >= path.length) {
                    return NONE;
                } else {
                    tried[then] = 0;
                    path[depth] = then;
                    depth++;
                }
            }
            return longest[0];
        }

        private void lengthen(int stand, int then) {
            longest[stand] = Math.max(longest[stand], longest[then] + 1);
        }

        private int greatestWarmth(int r) {
            int greatest = 0;
            for (int stand = 0; stand < known && stand < codes.length && greatest < MOST_WARMTH; stand++) {
                greatest = Math.max(greatest, warmthOf(warmOf(stand), r));
                openTo(stand);
            }
            return greatest;
        }
    }

    /**
     * What the first of two can force, found backwards from the stands in which the rider is warm enough: each stand
     * stands twice here, once for each whose turn it is.
     */
    private static final class Forcing {
        /** Within how many stops it is forced, of stand s: 2 s if the first one is to move, else 2 s + 1. */
        private final int[] ranks;
        private final int[] queue;
        /** How many stops of the second one in a stand still lead to where nothing is forced. */
        private final int[] escapes;
        private final int[] firstEdge;
        private final int[] nextEdge;
        private int solvedStart = NONE;
        private int solvedRider = NONE;
        private int solvedWarmth = NONE;
        private int queued = 0;

        private Forcing(int states) {
            ranks = new int[2 * states];
            queue = new int[2 * states];
            escapes = new int[states];
            firstEdge = new int[states];
            nextEdge = new int[states * STOP_KINDS];
        }

        private int size() {
            return escapes.length;
        }

        private void solve(Rows all, int r, int k) {
            if (all.starts == solvedStart && r == solvedRider && k == solvedWarmth) {
                return;
            }
            solvedStart = all.starts;
            solvedRider = r;
            solvedWarmth = k;
            prepare(all, r, k);
            // Ranks come in their order, so what is ranked behind the present stand matters no more.
            for (int i = 0; i < queued && ranks[0] == NONE; i++) {
                rankAhead(queue[i]);
            }
        }

        private void prepare(Rows all, int r, int k) {
            queued = 0;
            Arrays.fill(ranks, NONE);
            Arrays.fill(firstEdge, NONE);
            Arrays.fill(escapes, 0);
            for (int stand = 0; stand < all.known && stand < escapes.length; stand++) {
                for (int deed = 0; deed < STOP_KINDS; deed++) {
                    int then = all.nextOf(stand, deed);
                    if (then >= 0 && then < firstEdge.length) {
                        int edge = stand * STOP_KINDS + deed;
                        nextEdge[edge] = firstEdge[then];
                        firstEdge[then] = edge;
                        escapes[stand]++;
                    }
                }
                if (warmthOf(all.warmOf(stand), r) >= k) {
                    enqueue(2 * stand, 0);
                    enqueue(2 * stand + 1, 0);
                }
            }
        }

        private void enqueue(int place, int rank) {
            if (ranks[place] == NONE && queued < queue.length) {
                ranks[place] = rank;
                queue[queued] = place;
                queued++;
            }
        }

        /** Ranks what is forced a stop ahead: the first one needs one stop that leads here, the second one no other. */
        private void rankAhead(int place) {
            int turnAhead = 1 - place % 2;
            int edge = firstEdge[place / 2];
            for (int i = 0; i < nextEdge.length && edge != NONE; i++) {
                int stand = edge / STOP_KINDS;
                if (turnAhead == 1) {
                    escapes[stand]--;
                }
                if (turnAhead == 0 || escapes[stand] == 0) {
                    enqueue(2 * stand + turnAhead, ranks[place] + 1);
                }
                edge = nextEdge[edge];
            }
        }

        private int fewest() {
            return ranks[0];
        }

        private int firstDeed(Rows all) {
            for (int deed = 0; deed < STOP_KINDS && ranks[0] > 0; deed++) {
                int then = all.nextOf(0, deed);
                if (then >= 0 && then < escapes.length && ranks[2 * then + 1] == ranks[0] - 1) {
                    return deed;
                }
            }
            return NONE;
        }
    }
}
