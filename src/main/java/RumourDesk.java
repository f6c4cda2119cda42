/**
 * A rumour clinic: persons who tell sayings on by hours, the desk's guide, denials and what they
 * cost, kin of versions, where a saying began, where wardens hear soonest, and sheets of rows.
 * Answers below 0 are the constants, or a fault of the guide.
 */
public final class RumourDesk {
    public static final int BAD = -1, NOT = -2, FULL = -3, NONE = -4, NULL = -11, CAST = -12, INDEX = -13, SIZE = -14;

    private static final int PERSONS = 16, SAYINGS = 8, PLACES = 6, SHEETS = 4;
    private static final int LAST_HOUR = 9999, DAY_HOURS = 24, LAST_DAY = 416;
    private static final int MOST_HOURS = 96, MOST_PLAN_HOURS = 48, MOST_PLANNED = 4;
    private static final int NEVER = 0, BELIEVES = 1, DOUBTS = 2, FORGOT = 3;
    private static final int PLAIN = 0, CHANGED = 1, PLANTED = 2, TRUE = 3;
    private static final int TRUST = 0, HABIT = 1, READS = 2, FEAR = 3, DOUBT = 4;
    private static final int BOOLEANS = 0, BYTES = 1, INTS = 2;
    private static final int BY_PAPER = 16, FROM_WITHOUT = 17;
    private static final int UNNAMED = 2, NO_DENIAL = 3;

    private final Town town = new Town();
    private final Saying[] sayings = new Saying[SAYINGS];
    private final Spread trial = new Spread();
    private final Tape tape = new Tape();
    private final Kin family = new Kin();
    private final Reports reports = new Reports();
    private final Posts wardens = new Posts();
    private final Sheet[] sheets = new Sheet[SHEETS];
    private Guide inForce = new Guide();
    private Guide draft = new Guide();
    private int sayingCount;
    private int now;

    public RumourDesk() {
        for (int s = 0; s < SAYINGS; s++) {
            sayings[s] = new Saying();
        }
        for (int s = 0; s < SHEETS; s++) {
            sheets[s] = new Sheet();
        }
    }

    // ---- 1 persons, sayings

    public int person(int home, int work, int bar, int fear, int doubt) {
        if (!within(home, PLACES - 1) || !within(work, PLACES - 1) || !within(bar, PLACES - 1)
                || !Town.mayBe(FEAR, fear) || !Town.mayBe(DOUBT, doubt)) {
            return BAD;
        }
        if (town.size >= PERSONS) {
            return FULL;
        }
        return town.settle(home, work, bar, fear, doubt);
    }

    public int set(int person, int what, int v) {
        if (!isPerson(person) || !Town.mayBe(what, v)) {
            return BAD;
        }
        int was = town.traits[what][person];
        town.traits[what][person] = v;
        return was;
    }

    public int where(int person, int hour) {
        if (!isPerson(person) || !within(hour, LAST_HOUR)) {
            return BAD;
        }
        return town.placesAt(hour)[person];
    }

    public int plain(int who, int what, int many, int where) {
        if (!areParts(who, what, many, where)) {
            return BAD;
        }
        return comeUp(PLAIN, Parts.together(who, what, many, where));
    }

    public int changed(int saying, int part, int v) {
        if (!isSaying(saying) || part < 1 || part > Parts.COUNT || !within(v, 9)) {
            return BAD;
        }
        int parts = sayings[saying].parts;
        if (Parts.at(parts, part - 1) == v) {
            return NOT;
        }
        int number = comeUp(CHANGED, Parts.with(parts, part - 1, v));
        if (number >= 0) {
            sayings[number].of = saying;
        }
        return number;
    }

    public int planted(int saying, int hour) {
        if (!isSaying(saying) || !within(hour, LAST_HOUR)) {
            return BAD;
        }
        int number = comeUp(PLANTED, sayings[saying].parts);
        if (number >= 0) {
            sayings[number].of = saying;
            sayings[number].hour = hour;
        }
        return number;
    }

    public int real(int who, int what, int many, int where, boolean may) {
        if (!areParts(who, what, many, where)) {
            return BAD;
        }
        int number = comeUp(TRUE, Parts.together(who, what, many, where));
        if (number >= 0) {
            sayings[number].may = may;
        }
        return number;
    }

    public int told(int saying, int what) {
        if (!isSaying(saying) || !within(what, 8)) {
            return BAD;
        }
        Saying s = sayings[saying];
        switch (what) {
            case 0: return s.kind;
            case 5: return s.kind == CHANGED || s.kind == PLANTED ? s.of : CAST;
            case 6: return s.kind == PLANTED ? s.hour : CAST;
            case 7: return s.kind != TRUE ? CAST : s.may ? 1 : 0;
            case 8: return s.denials;
            default: return Parts.at(s.parts, what - 1);
        }
    }

    public int weight(int what, int v) {
        if (!within(what, 9) || !within(v, 9)) {
            return BAD;
        }
        int was = town.weights[what];
        town.weights[what] = v;
        return was;
    }

    public int begin(int person, int saying) {
        if (!isPerson(person) || !isSaying(saying)) {
            return BAD;
        }
        Saying s = sayings[saying];
        if (s.kind == PLANTED && now < s.hour) {
            return NOT;
        }
        int was = s.spread.state[person];
        s.spread.start(person, s.parts, now);
        return was;
    }

    public int knows(int person, int saying, int what) {
        if (!isPerson(person) || !isSaying(saying) || !within(what, 4)) {
            return BAD;
        }
        Spread spread = sayings[saying].spread;
        int state = spread.state[person];
        if (state == NEVER && what != 0) {
            return NONE;
        }
        switch (what) {
            case 0: return state;
            case 1: return spread.since[person];
            case 2: return spread.version[person];
            case 3: return spread.by[person];
            default: return spread.latest[person];
        }
    }

    public int count(int what) {
        switch (what) {
            case 0: return town.size;
            case 1: return sayingCount;
            case 2: return inForce.clauses;
            case 3: return reports.size;
            case 4: return now;
            default: return BAD;
        }
    }

    // ---- 2 hours, denials

    public int hours(int n) {
        if (n < 1 || n > MOST_HOURS) {
            return BAD;
        }
        if (now + n > LAST_HOUR) {
            return NOT;
        }
        for (int s = 0; s < sayingCount; s++) {
            town.passHours(sayings[s].spread, now, n);
        }
        now += n;
        return now;
    }

    public int reach(int saying, int state) {
        if (!isSaying(saying) || !within(state, FORGOT)) {
            return BAD;
        }
        Spread spread = sayings[saying].spread;
        int number = 0;
        for (int p = 0; p < town.size; p++) {
            if (spread.state[p] == state) {
                number++;
            }
        }
        return number;
    }

    public int harm(int saying) {
        if (!isSaying(saying)) {
            return BAD;
        }
        Saying s = sayings[saying];
        return s.kind == TRUE ? 0 : town.harmOf(s.spread);
    }

    public int deny(int saying, int wording) {
        if (!isSaying(saying) || !within(wording, UNNAMED)) {
            return BAD;
        }
        Saying s = sayings[saying];
        if (s.isSecret()) {
            return NOT;
        }
        s.denials++;
        return town.print(s.spread, s.parts, wording, now);
    }

    public int found(int saying) {
        if (!isSaying(saying)) {
            return BAD;
        }
        Saying s = sayings[saying];
        if (s.kind != TRUE) {
            return CAST;
        }
        int denials = s.denials;
        s.denials = 0;
        town.loseTrust(denials);
        return denials;
    }

    public int foretold(int h) {
        if (!within(h, MOST_HOURS)) {
            return BAD;
        }
        int sum = 0;
        for (int s = 0; s < sayingCount; s++) {
            sum += harmAhead(s, NO_DENIAL, h);
        }
        return sum;
    }

    public int wording(int saying, int h) {
        if (!isSaying(saying) || !within(h, MOST_HOURS)) {
            return BAD;
        }
        if (sayings[saying].isSecret()) {
            return NOT;
        }
        // A denial leaves all other sayings as they go, so the harm of this one decides.
        int best = NO_DENIAL;
        int least = harmAhead(saying, NO_DENIAL, h);
        for (int w = 0; w <= UNNAMED; w++) {
            int harm = harmAhead(saying, w, h);
            if (harm < least) {
                least = harm;
                best = w;
            }
        }
        return best;
    }

    public int plan(int set, int h) {
        if (set < 0 || set >= 1 << sayingCount || Integer.bitCount(set) > MOST_PLANNED
                || !within(h, MOST_PLAN_HOURS)) {
            return BAD;
        }
        for (int s = 0; s < sayingCount; s++) {
            if (has(set, s) && sayings[s].isSecret()) {
                return NOT;
            }
        }
        // Sayings go apart from one another: the least harm with the fewest denials denies just
        // those whose own harm a denial lowers.
        int denied = 0;
        for (int s = 0; s < sayingCount; s++) {
            if (has(set, s) && harmAhead(s, 0, h) < harmAhead(s, NO_DENIAL, h)) {
                denied |= 1 << s;
            }
        }
        return denied;
    }

    // ---- 3 the guide

    public int type(long w, int n) {
        if (n < 1 || n > 8) {
            return BAD;
        }
        for (int i = 0; i < n; i++) {
            int sign = byteOf(w, i);
            if (sign < 32 || sign > 126) {
                return BAD;
            }
        }
        if (tape.length + n > Tape.MOST) {
            return FULL;
        }
        for (int i = n - 1; i >= 0; i--) {
            tape.append((char) byteOf(w, i));
        }
        return tape.length;
    }

    public int guide() {
        int answer = tape.readInto(draft);
        if (answer >= 0) {
            Guide former = inForce;
            inForce = draft;
            draft = former;
        }
        tape.length = 0;
        return answer;
    }

    public int why(int saying, int what) {
        if (!isSaying(saying) || !within(what, 1)) {
            return BAD;
        }
        int clause = inForce.lastThatHolds(sayings[saying].parts, now / DAY_HOURS);
        if (clause == NONE) {
            return NONE;
        }
        return what == 0 ? clause : inForce.acts[clause];
    }

    // ---- 4 kin, beginnings, posts

    public int versions(int saying) {
        if (!isSaying(saying)) {
            return BAD;
        }
        family.look(sayings[saying].spread, town.size);
        return family.size;
    }

    public int version(int saying, int i, int what) {
        if (!isSaying(saying) || !within(what, 1)) {
            return BAD;
        }
        family.look(sayings[saying].spread, town.size);
        if (!within(i, family.size - 1)) {
            return BAD;
        }
        if (what == 0) {
            return family.versions[i];
        }
        family.join();
        return family.joinedTo[i];
    }

    public int kin(int saying) {
        if (!isSaying(saying)) {
            return BAD;
        }
        family.look(sayings[saying].spread, town.size);
        return family.join();
    }

    public int report(int place, int hour, boolean isTold) {
        if (!within(place, PLACES - 1) || !within(hour, DAY_HOURS - 1)) {
            return BAD;
        }
        if (reports.size >= Reports.MOST) {
            return FULL;
        }
        return reports.take(place, hour, isTold);
    }

    public int clear() {
        return reports.forget();
    }

    public int could(int saying, int person, int hour) {
        if (!isSaying(saying) || !isPerson(person) || !within(hour, DAY_HOURS - 1)) {
            return BAD;
        }
        return agrees(sayings[saying].parts, person, hour) ? 1 : 0;
    }

    public int first(int saying) {
        if (!isSaying(saying)) {
            return BAD;
        }
        int persons = 0;
        for (int p = 0; p < town.size; p++) {
            if (agreesAtSomeHour(sayings[saying].parts, p)) {
                persons |= 1 << p;
            }
        }
        return persons;
    }

    public int posts(int k, int what) {
        if (k < 1 || k > Posts.MOST || !within(what, 1)) {
            return BAD;
        }
        for (int s = 0; s < sayingCount; s++) {
            trial.becomeLike(sayings[s].spread);
            wardens.awaitSaying(s);
            for (int t = 0; t < DAY_HOURS; t++) {
                wardens.hear(s, town.passHour(trial, now + t), t);
            }
        }
        int best = wardens.choose(k, sayingCount);
        return what == 0 ? best : wardens.sumOf(best, sayingCount);
    }

    public int check(int saying, int h, int sheet, int lane, int i) {
        if (!isSaying(saying) || !within(h, MOST_PLAN_HOURS) || !isSheet(sheet)
                || lane != BYTES && lane != INTS) {
            return BAD;
        }
        Sheet row = sheets[sheet];
        int fault = row.faultFor(lane, i, town.size);
        if (fault != 0) {
            return fault;
        }
        trial.becomeLike(sayings[saying].spread);
        town.passHours(trial, now, h);
        for (int p = 0; p < town.size; p++) {
            if (row.items[i + p] != trial.state[p]) {
                return p;
            }
        }
        return NONE;
    }

    // ---- 5 sheets

    public int sheet(int sheet, int lane, int n) {
        if (!isSheet(sheet) || !within(lane, INTS) || n > Sheet.MOST) {
            return BAD;
        }
        if (n < 0) {
            return SIZE;
        }
        sheets[sheet].hold(lane, n);
        return n;
    }

    public int drop(int sheet) {
        if (!isSheet(sheet)) {
            return BAD;
        }
        Sheet row = sheets[sheet];
        if (row.isMissing()) {
            return NULL;
        }
        row.lane = Sheet.NOTHING;
        return row.length;
    }

    public int item(int sheet, int lane, int i, int v) {
        if (!isSheet(sheet) || !within(lane, INTS)) {
            return BAD;
        }
        Sheet row = sheets[sheet];
        int fault = row.faultFor(lane, i, 1);
        if (fault != 0) {
            return fault;
        }
        row.items[i] = Sheet.asItem(lane, v);
        return 1;
    }

    public int copy(int from, int i, int to, int j, int n) {
        if (!isSheet(from) || !isSheet(to)) {
            return BAD;
        }
        Sheet source = sheets[from];
        Sheet target = sheets[to];
        if (source.isMissing() || target.isMissing()) {
            return NULL;
        }
        if (source.lane != target.lane) {
            return CAST;
        }
        if (n < 0 || !source.spans(i, n) || !target.spans(j, n)) {
            return INDEX;
        }
        System.arraycopy(source.items, i, target.items, j, n);
        return n;
    }

    public int reads(int sheet, int i) {
        if (!isSheet(sheet)) {
            return BAD;
        }
        Sheet row = sheets[sheet];
        int fault = row.faultFor(BOOLEANS, i, town.size);
        if (fault != 0) {
            return fault;
        }
        int number = 0;
        for (int p = 0; p < town.size; p++) {
            town.traits[READS][p] = row.items[i + p];
            number += row.items[i + p];
        }
        return number;
    }

    // ---- what the calls share

    private static boolean within(int v, int top) {
        return v >= 0 && v <= top;
    }

    private static boolean has(int bits, int i) {
        return (bits >> i & 1) == 1;
    }

    private static int byteOf(long w, int i) {
        return (int) (w >>> 8 * i) & 255;
    }

    private static boolean areParts(int who, int what, int many, int where) {
        return within(who, 9) && within(what, 9) && within(many, 9) && within(where, 9);
    }

    private static boolean isSheet(int sheet) {
        return within(sheet, SHEETS - 1);
    }

    private boolean isPerson(int person) {
        return within(person, town.size - 1);
    }

    private boolean isSaying(int saying) {
        return within(saying, sayingCount - 1);
    }

    private int comeUp(int kind, int parts) {
        if (sayingCount >= SAYINGS) {
            return FULL;
        }
        Saying s = sayings[sayingCount];
        s.kind = kind;
        s.parts = parts;
        sayingCount++;
        return sayingCount - 1;
    }

    /** The harm of a saying h hours on, were it denied now in a wording. */
    private int harmAhead(int saying, int wording, int h) {
        Saying s = sayings[saying];
        if (s.kind == TRUE) {
            return 0;
        }
        trial.becomeLike(s.spread);
        if (wording != NO_DENIAL) {
            town.print(trial, s.parts, wording, now);
        }
        town.passHours(trial, now, h);
        return town.harmOf(trial);
    }

    private boolean agreesAtSomeHour(int parts, int person) {
        for (int hour = 0; hour < DAY_HOURS; hour++) {
            if (agrees(parts, person, hour)) {
                return true;
            }
        }
        return false;
    }

    /** Whether the reports agree with a saying that began with one person at an hour. */
    private boolean agrees(int parts, int person, int hour) {
        for (int t = 0; t < hour; t++) {
            if (!reports.agreeWith(t, 0)) {
                return false;
            }
        }
        trial.empty();
        trial.start(person, parts, hour);
        for (int t = hour; t <= reports.last; t++) {
            if (!reports.agreeWith(t, town.passHour(trial, t))) {
                return false;
            }
        }
        return true;
    }

    /** Four parts of one digit each, together as one number with the first part in front. */
    private static final class Parts {
        static final int COUNT = 4, WHAT = 1;
        private static final int[] UNITS = {1000, 100, 10, 1};

        static int together(int who, int what, int many, int where) {
            return 1000 * who + 100 * what + 10 * many + where;
        }

        static int at(int parts, int i) {
            return parts / UNITS[i] % 10;
        }

        static int with(int parts, int i, int v) {
            return parts + (v - at(parts, i)) * UNITS[i];
        }

        /** A version as one tells it whose habit is that part, counted from 1 (0: none). */
        static int asTold(int version, int habit) {
            if (habit == 0) {
                return version;
            }
            int unit = UNITS[habit - 1];
            return version / unit % 10 == 9 ? version - 9 * unit : version + unit;
        }

        static int distance(int a, int b) {
            int unlike = 0;
            for (int i = 0; i < COUNT; i++) {
                if (at(a, i) != at(b, i)) {
                    unlike++;
                }
            }
            return unlike;
        }
    }

    /** What each person has of one saying. */
    private static final class Spread {
        final int[] state = new int[PERSONS];
        final int[] since = new int[PERSONS];
        final int[] version = new int[PERSONS];
        final int[] by = new int[PERSONS];
        final int[] latest = new int[PERSONS];

        void empty() {
            for (int p = 0; p < PERSONS; p++) {
                state[p] = NEVER;
            }
        }

        void becomeLike(Spread other) {
            for (int p = 0; p < PERSONS; p++) {
                state[p] = other.state[p];
                since[p] = other.since[p];
                version[p] = other.version[p];
                by[p] = other.by[p];
                latest[p] = other.latest[p];
            }
        }

        void turn(int person, int to, int hour) {
            state[person] = to;
            since[person] = hour;
        }

        void take(int person, int parts, int from) {
            version[person] = parts;
            by[person] = from;
        }

        void start(int person, int parts, int hour) {
            turn(person, BELIEVES, hour);
            take(person, parts, FROM_WITHOUT);
            latest[person] = hour;
        }

        boolean isNewTo(int person) {
            return state[person] == NEVER || state[person] == FORGOT;
        }
    }

    private static final class Saying {
        final Spread spread = new Spread();
        int kind;
        int parts;
        int of;
        int hour;
        boolean may;
        int denials;

        boolean isSecret() {
            return kind == TRUE && !may;
        }
    }

    /** The persons, and how sayings go among them. */
    private static final class Town {
        private static final int HOME = 0, WORK = 1, BAR = 2, SPOTS = 3;
        private static final int TRAITS = 5, FIRST_TRUST = 50, FIRST_WEIGHT = 5, LOST_TRUST = 15;
        private static final int LOUD_FROM = 10, FORGET_AFTER = 48;
        private static final int[] TOPS = {99, 4, 1, 9, 19};
        private static final int[] FORCES = {3, 5, 1};

        final int[][] traits = new int[TRAITS][PERSONS];
        final int[] weights = new int[10];
        int size;
        private final int[][] places = new int[SPOTS][PERSONS];
        private final int[] loud = new int[PLACES];

        Town() {
            for (int what = 0; what < 10; what++) {
                weights[what] = FIRST_WEIGHT;
            }
        }

        static boolean mayBe(int trait, int v) {
            return within(trait, TRAITS - 1) && within(v, TOPS[trait]);
        }

        int settle(int home, int work, int bar, int fear, int doubt) {
            places[HOME][size] = home;
            places[WORK][size] = work;
            places[BAR][size] = bar;
            traits[FEAR][size] = fear;
            traits[DOUBT][size] = doubt;
            traits[TRUST][size] = FIRST_TRUST;
            size++;
            return size - 1;
        }

        int[] placesAt(int hour) {
            int ofDay = hour % DAY_HOURS;
            if (ofDay >= 8 && ofDay <= 17) {
                return places[WORK];
            }
            return ofDay >= 18 && ofDay <= 21 ? places[BAR] : places[HOME];
        }

        void passHours(Spread spread, int from, int n) {
            for (int t = 0; t < n; t++) {
                passHour(spread, from + t);
            }
        }

        /** Lets one hour pass for a saying: the places, as bits, where someone was loud ahead of it. */
        int passHour(Spread spread, int hour) {
            int[] at = placesAt(hour);
            int heardAt = listen(spread, at);
            // No version that a loud person has changes in the hour, so all still is as it was ahead.
            for (int p = 0; p < size; p++) {
                int tellers = loud[at[p]] & ~(1 << p);
                if (tellers != 0) {
                    hear(spread, p, tellers, hour);
                } else {
                    fade(spread, p, hour);
                }
            }
            return heardAt;
        }

        /** Finds who is loud at each place: the places where someone is, as bits. */
        private int listen(Spread spread, int[] at) {
            for (int place = 0; place < PLACES; place++) {
                loud[place] = 0;
            }
            int heardAt = 0;
            for (int p = 0; p < size; p++) {
                if (spread.state[p] == BELIEVES
                        && traits[FEAR][p] * weightOf(spread.version[p]) >= LOUD_FROM) {
                    loud[at[p]] |= 1 << p;
                    heardAt |= 1 << at[p];
                }
            }
            return heardAt;
        }

        private void hear(Spread spread, int p, int tellers, int hour) {
            spread.latest[p] = hour;
            if (spread.state[p] == BELIEVES) {
                return;
            }
            boolean convinced = traits[FEAR][p] + 2 * Integer.bitCount(tellers) > traits[DOUBT][p];
            if (spread.isNewTo(p)) {
                int teller = leastOf(tellers);
                spread.take(p, Parts.asTold(spread.version[teller], traits[HABIT][teller]), teller);
                spread.turn(p, convinced ? BELIEVES : DOUBTS, hour);
            } else if (convinced) {
                spread.turn(p, BELIEVES, hour);
            }
        }

        private void fade(Spread spread, int p, int hour) {
            if (!spread.isNewTo(p) && hour - spread.latest[p] >= FORGET_AFTER) {
                spread.turn(p, FORGOT, hour);
            }
        }

        private static int leastOf(int bits) {
            return Integer.bitCount((bits & -bits) - 1);
        }

        private int weightOf(int version) {
            return weights[Parts.at(version, Parts.WHAT)];
        }

        int harmOf(Spread spread) {
            int sum = 0;
            for (int p = 0; p < size; p++) {
                if (spread.state[p] == BELIEVES) {
                    sum += weightOf(spread.version[p]);
                }
            }
            return sum;
        }

        /** Prints a denial in the paper: how many persons have another state by it. */
        int print(Spread spread, int parts, int wording, int hour) {
            int turned = 0;
            for (int p = 0; p < size; p++) {
                boolean isLeftOut = wording == UNNAMED && spread.isNewTo(p);
                if (traits[READS][p] == 1 && !isLeftOut) {
                    int was = spread.state[p];
                    readDenial(spread, p, parts, FORCES[wording], hour);
                    if (spread.state[p] != was) {
                        turned++;
                    }
                }
            }
            return turned;
        }

        private void readDenial(Spread spread, int p, int parts, int force, int hour) {
            int fear = traits[FEAR][p];
            int trust = traits[TRUST][p];
            spread.latest[p] = hour;
            if (spread.isNewTo(p)) {
                spread.take(p, parts, BY_PAPER);
                spread.turn(p, 10 * fear > trust ? BELIEVES : DOUBTS, hour);
            } else if (spread.state[p] == BELIEVES && trust * force > 20 * fear) {
                spread.turn(p, DOUBTS, hour);
            }
        }

        void loseTrust(int denials) {
            for (int p = 0; p < size; p++) {
                if (traits[READS][p] == 1) {
                    traits[TRUST][p] = Math.max(0, traits[TRUST][p] - LOST_TRUST * denials);
                }
            }
        }
    }

    /** What has been typed, and the reading of it as a guide. */
    private static final class Tape {
        static final int MOST = 120;
        private static final int FIRST_FAULT = -20, MOST_OPEN = 5;
        private static final char END = 1;

        int length;
        private final char[] signs = new char[MOST];
        private int at;

        void append(char sign) {
            if (length < MOST) {
                signs[length] = sign;
                length++;
            }
        }

        /** How many clauses the text has, or its fault; a text of blanks at most is a guide without any. */
        int readInto(Guide guide) {
            guide.empty();
            at = 0;
            if (next() != END && !readClauses(guide)) {
                return FIRST_FAULT - at;
            }
            return guide.clauses;
        }

        // Each reading below answers whether it could go on; where it could not, 'at' is the fault.

        private boolean readClauses(Guide guide) {
            if (!readClause(guide)) {
                return false;
            }
            for (int i = 1; i < Guide.MOST && takes(';'); i++) {
                if (!readClause(guide)) {
                    return false;
                }
            }
            return next() == END;
        }

        private boolean readClause(Guide guide) {
            if (!readTest(guide, 0) || !takes(':')) {
                return false;
            }
            int act = takesOneOf("dhs");
            if (act < 0) {
                return false;
            }
            int day = takes('@') ? readDay() : 0;
            if (day < 0) {
                return false;
            }
            guide.endClause(act, day);
            return true;
        }

        private int readDay() {
            next();
            int start = at;
            int day = 0;
            for (; at < length && signs[at] >= '0' && signs[at] <= '9'; at++) {
                // What is above the last day stays there, however many digits follow.
                day = Math.min(10 * day + signs[at] - '0', LAST_DAY + 1);
            }
            if (at == start || day > LAST_DAY) {
                at = start;
                return NONE;
            }
            return day;
        }

        private boolean readTest(Guide guide, int open) {
            if (!readCase(guide, open)) {
                return false;
            }
            for (int i = 0; i < MOST && takes('|'); i++) {
                if (!readCase(guide, open)) {
                    return false;
                }
                guide.add(Guide.EITHER);
            }
            return true;
        }

        private boolean readCase(Guide guide, int open) {
            if (!readClaim(guide, open)) {
                return false;
            }
            for (int i = 0; i < MOST && takes('&'); i++) {
                if (!readClaim(guide, open)) {
                    return false;
                }
                guide.add(Guide.BOTH);
            }
            return true;
        }

        private boolean readClaim(Guide guide, int open) {
            boolean isNegated = takes('!');
            boolean goesOn;
            if (open < MOST_OPEN && takes('(')) {
                goesOn = readTest(guide, open + 1) && takes(')');
            } else {
                goesOn = readComparison(guide);
            }
            if (goesOn && isNegated) {
                guide.add(Guide.NEGATE);
            }
            return goesOn;
        }

        private boolean readComparison(Guide guide) {
            int part = takesOneOf("wtnp");
            if (part < 0) {
                return false;
            }
            int relation = takesOneOf("=<>");
            if (relation < 0) {
                return false;
            }
            int digit = takesOneOf("0123456789");
            if (digit < 0) {
                return false;
            }
            guide.add(Guide.comparison(part, relation, digit));
            return true;
        }

        /** The next sign behind blanks; it is not taken. */
        private char next() {
            for (; at < length && signs[at] == ' '; at++) {
                continue;
            }
            return at < length ? signs[at] : END;
        }

        private boolean takes(char sign) {
            if (next() != sign) {
                return false;
            }
            at++;
            return true;
        }

        private int takesOneOf(String wanted) {
            int i = wanted.indexOf(next());
            if (i >= 0) {
                at++;
            }
            return i;
        }
    }

    /** The clauses of a guide; their tests stand as steps in which each joint follows its sides. */
    private static final class Guide {
        static final int MOST = 6;
        static final int BOTH = -1, EITHER = -2, NEGATE = -3;
        private static final int EQUAL = 0, LESS = 1;

        final int[] acts = new int[MOST];
        int clauses;
        private final int[] days = new int[MOST];
        private final int[] ends = new int[MOST];
        private final int[] steps = new int[Tape.MOST];
        private int size;

        static int comparison(int part, int relation, int digit) {
            return 100 * part + 10 * relation + digit;
        }

        void empty() {
            clauses = 0;
            size = 0;
        }

        void add(int step) {
            if (size < Tape.MOST) {
                steps[size] = step;
                size++;
            }
        }

        void endClause(int act, int day) {
            if (clauses < MOST) {
                acts[clauses] = act;
                days[clauses] = day;
                ends[clauses] = size;
                clauses++;
            }
        }

        int lastThatHolds(int parts, int day) {
            for (int c = clauses - 1; c >= 0; c--) {
                if (days[c] <= day && holds(c, parts)) {
                    return c;
                }
            }
            return NONE;
        }

        /** What waits for a joint is kept as bits, the newest lowest: 13 at most (5 brackets open). */
        private boolean holds(int clause, int parts) {
            int waiting = 0;
            for (int i = clause == 0 ? 0 : ends[clause - 1]; i < ends[clause]; i++) {
                int step = steps[i];
                int newest = waiting & 1;
                if (step == NEGATE) {
                    waiting ^= 1;
                } else if (step == BOTH) {
                    waiting = waiting >> 1 & (newest | ~1);
                } else if (step == EITHER) {
                    waiting = waiting >> 1 | newest;
                } else {
                    waiting = waiting << 1 | (compares(step, parts) ? 1 : 0);
                }
            }
            return (waiting & 1) == 1;
        }

        private static boolean compares(int step, int parts) {
            int v = Parts.at(parts, step / 100);
            int relation = step / 10 % 10;
            int digit = step % 10;
            if (relation == EQUAL) {
                return v == digit;
            }
            return relation == LESS ? v < digit : v > digit;
        }
    }

    /** The versions of a saying, and the tree that joins them by the fewest changes. */
    private static final class Kin {
        static final int MOST = 12;

        final int[] versions = new int[PERSONS];
        final int[] joinedTo = new int[MOST];
        int size;
        private final boolean[] joined = new boolean[MOST];

        void look(Spread spread, int persons) {
            size = 0;
            for (int p = 0; p < persons; p++) {
                if (spread.state[p] != NEVER) {
                    sortIn(spread.version[p]);
                }
            }
            size = Math.min(size, MOST);
        }

        private void sortIn(int version) {
            int i = 0;
            for (; i < size && versions[i] < version; i++) {
                continue;
            }
            if (i < size && versions[i] == version || size >= PERSONS) {
                return;
            }
            for (int j = size; j > i; j--) {
                versions[j] = versions[j - 1];
            }
            versions[i] = version;
            size++;
        }

        /** Joins all versions from the first on: the sum of changes. */
        int join() {
            for (int i = 0; i < MOST; i++) {
                joined[i] = i == 0;
                joinedTo[i] = NONE;
            }
            int sum = 0;
            for (int n = 1; n < size; n++) {
                sum += joinNearest();
            }
            return sum;
        }

        private int joinNearest() {
            int least = Parts.COUNT + 1;
            int nearest = 0;
            int anchor = 0;
            for (int i = 0; i < size; i++) {
                for (int j = 0; j < size && !joined[i]; j++) {
                    if (joined[j] && Parts.distance(versions[i], versions[j]) < least) {
                        least = Parts.distance(versions[i], versions[j]);
                        nearest = i;
                        anchor = j;
                    }
                }
            }
            joined[nearest] = true;
            joinedTo[nearest] = anchor;
            return least;
        }
    }

    /** What wardens heard, as places by the hour. */
    private static final class Reports {
        static final int MOST = 12;

        int size;
        /** The last hour of which there is a report; below 0: none. */
        int last = NONE;
        private final int[] loudAt = new int[DAY_HOURS];
        private final int[] quietAt = new int[DAY_HOURS];

        int take(int place, int hour, boolean isLoud) {
            if (isLoud) {
                loudAt[hour] |= 1 << place;
            } else {
                quietAt[hour] |= 1 << place;
            }
            last = Math.max(last, hour);
            size++;
            return size - 1;
        }

        int forget() {
            for (int hour = 0; hour < DAY_HOURS; hour++) {
                loudAt[hour] = 0;
                quietAt[hour] = 0;
            }
            int gone = size;
            size = 0;
            last = NONE;
            return gone;
        }

        boolean agreeWith(int hour, int loudPlaces) {
            return (loudAt[hour] & ~loudPlaces) == 0 && (quietAt[hour] & loudPlaces) == 0;
        }
    }

    /** How soon each saying is heard at each place. */
    private static final class Posts {
        static final int MOST = 3;

        private final int[][] soonest = new int[SAYINGS][PLACES];

        void awaitSaying(int saying) {
            for (int place = 0; place < PLACES; place++) {
                soonest[saying][place] = DAY_HOURS;
            }
        }

        void hear(int saying, int loudPlaces, int t) {
            for (int place = 0; place < PLACES; place++) {
                if (has(loudPlaces, place)) {
                    soonest[saying][place] = Math.min(soonest[saying][place], t);
                }
            }
        }

        int choose(int k, int sayings) {
            int best = 0;
            int least = DAY_HOURS * SAYINGS + 1;
            for (int set = 1; set < 1 << PLACES; set++) {
                if (Integer.bitCount(set) == k && sumOf(set, sayings) < least) {
                    least = sumOf(set, sayings);
                    best = set;
                }
            }
            return best;
        }

        int sumOf(int set, int sayings) {
            int sum = 0;
            for (int s = 0; s < sayings; s++) {
                int least = DAY_HOURS;
                for (int place = 0; place < PLACES; place++) {
                    if (has(set, place)) {
                        least = Math.min(least, soonest[s][place]);
                    }
                }
                sum += least;
            }
            return sum;
        }
    }

    /** A row of a lane, or nothing. */
    private static final class Sheet {
        static final int MOST = 32, NOTHING = -1;

        final int[] items = new int[MOST];
        int lane = NOTHING;
        int length;

        boolean isMissing() {
            return lane == NOTHING;
        }

        void hold(int newLane, int n) {
            lane = newLane;
            length = n;
            for (int i = 0; i < MOST; i++) {
                items[i] = 0;
            }
        }

        /** Whether n items from i on are in the row, i not behind its end even for n 0; n is not below 0. */
        boolean spans(int i, int n) {
            return i >= 0 && n <= length && i <= length - n;
        }

        /** What the machine would find in taking n items from i on from a row of a lane; or 0. */
        int faultFor(int wanted, int i, int n) {
            if (isMissing()) {
                return NULL;
            }
            if (lane != wanted) {
                return CAST;
            }
            return spans(i, n) ? 0 : INDEX;
        }

        static int asItem(int lane, int v) {
            if (lane == BOOLEANS) {
                return v != 0 ? 1 : 0;
            }
            return lane == BYTES ? (byte) v : v;
        }
    }
}
