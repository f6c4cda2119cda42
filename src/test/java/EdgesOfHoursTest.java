/** Edges of the terms' second part and of promises 14 to 21: just enough, just not, none and all. */
public final class EdgesOfHoursTest {
    private static final int NEVER = 0, BELIEVES = 1, DOUBTS = 2, FORGOT = 3;
    private static final int[] FORCES = {3, 5, 1};
    private static final Edges EDGES = new Edges();

    public static void main(String[] args) {
        hoursOneByOne();
        loudFromTenOn();
        nobodyTellsOneself();
        moreThanDoubt();
        doubtersByTheSameTest();
        forgottenFrom48On();
        heardInTheLastHour();
        neverStaysNever();
        deniedToThoseWhoBelieve();
        deniedToThoseToWhomItIsNew();
        unnamedLeavesOut();
        deniedAtTheLastHour();
        trustNotBelowNothing();
        harmOfNoneAndAll();
        reachOfNoneAndAll();
        foretoldAsItGoes();
        wordingByTrying();
        wordingOfLikeOnes();
        planByTrying();
        planOfLikeOnes();
        planByTheShortWording();
        EDGES.end();
    }

    private static void due(String call, long want, long got) {
        EDGES.due(call, want, got);
    }

    /** A desk with one saying, 1 1 1 1, and so many persons who are always at one place. */
    private static RumourDesk withSaying(int persons, int fear, int doubt) {
        RumourDesk desk = new RumourDesk();
        Checks.settle(desk, persons, 0, fear, doubt);
        desk.plain(1, 1, 1, 1);
        return desk;
    }

    /** "n HOURS (1 .. 96)": many are as many times one. */
    private static void hoursOneByOne() {
        for (int n : new int[] {1, 2, 48, 95, 96}) {
            String together = Looks.of(Scene.BUSY, desk -> desk.hours(n));
            String oneByOne = Looks.of(Scene.BUSY, desk -> {
                for (int i = 0; i < n; i++) {
                    desk.hours(1);
                }
                return 0;
            });
            due(n + " hours are " + n + " times one", 1, together.equals(oneByOne) ? 1 : 0);
            due("NOW", 60 + n, Scene.BUSY.get().hours(n));
        }
    }

    /** "LOUD, if FEAR times the WEIGHT of the what of the own VERSION is 10 or more". */
    private static void loudFromTenOn() {
        int[][] pairs = {{9, 1, 0}, {1, 9, 0}, {3, 3, 0}, {2, 4, 0}, {4, 2, 0}, {0, 9, 0}, {9, 0, 0},
            {5, 2, 1}, {2, 5, 1}, {2, 6, 1}, {6, 2, 1}, {3, 4, 1}, {4, 3, 1}, {9, 2, 1}, {2, 9, 1}, {9, 9, 1}};
        for (int[] pair : pairs) {
            RumourDesk desk = withSaying(2, 0, 0);
            desk.set(0, 3, pair[0]);
            desk.weight(1, pair[1]);
            desk.begin(0, 0);
            desk.hours(1);
            due(pair[0] + " times " + pair[1], pair[2] == 1 ? BELIEVES : NEVER, desk.knows(1, 0, 0));
        }
    }

    /** "TELLERS of a PERSON: those others who are LOUD": one alone hears nothing, two hear each other. */
    private static void nobodyTellsOneself() {
        RumourDesk alone = withSaying(1, 9, 0);
        alone.begin(0, 0);
        alone.hours(5);
        due("alone: heard the latest at the beginning", 0, alone.knows(0, 0, 4));
        RumourDesk two = withSaying(2, 9, 0);
        two.begin(0, 0);
        two.begin(1, 0);
        two.hours(5);
        due("two: heard the latest in the last hour", 4, two.knows(0, 0, 4));
        due("the other, too", 4, two.knows(1, 0, 4));
        due("who believes stays so since then", 0, two.knows(0, 0, 1));
        due("with the own version from without", 17, two.knows(1, 0, 3));
    }

    /** "comes to BELIEVE it, if FEAR and twice the number of TELLERS are above DOUBT, else DOUBTS". */
    private static void moreThanDoubt() {
        for (int tellers = 1; tellers <= 15; tellers++) {
            for (int fear = 0; fear <= 9; fear++) {
                for (int doubt = 0; doubt <= 19; doubt++) {
                    RumourDesk desk = new RumourDesk();
                    desk.person(0, 0, 0, fear, doubt);
                    Checks.settle(desk, tellers, 0, 9, 0);
                    desk.plain(1, 1, 1, 1);
                    for (int p = 1; p <= tellers; p++) {
                        desk.begin(p, 0);
                    }
                    desk.hours(1);
                    int want = fear + 2 * tellers > doubt ? BELIEVES : DOUBTS;
                    due(tellers + " tellers, fear " + fear + ", doubt " + doubt, want, desk.knows(0, 0, 0));
                }
            }
        }
    }

    /** "who DOUBTS comes to BELIEVE by the same test (the VERSION stays)". */
    private static void doubtersByTheSameTest() {
        for (int doubt = 0; doubt <= 19; doubt++) {
            RumourDesk desk = withSaying(3, 9, 0);
            desk.set(0, 3, 0);
            desk.set(0, 4, 19);
            desk.set(1, 1, 4);
            desk.begin(1, 0);
            desk.hours(1);
            due("doubts at first", DOUBTS, desk.knows(0, 0, 0));
            desk.set(0, 4, doubt);
            desk.set(0, 3, 6);
            desk.begin(2, 0);
            desk.hours(1);
            boolean believes = 6 + 2 * 2 > doubt;
            due("fear 6, two tellers, doubt " + doubt, believes ? BELIEVES : DOUBTS, desk.knows(0, 0, 0));
            due("since", believes ? 1 : 0, desk.knows(0, 0, 1));
            due("the version stays", 1112, desk.knows(0, 0, 2));
            due("by whom stays", 1, desk.knows(0, 0, 3));
            due("heard at NOW, either way", 1, desk.knows(0, 0, 4));
        }
    }

    /** "who BELIEVES or DOUBTS, and heard it the latest 48 hours ago or more, FORGOT." */
    private static void forgottenFrom48On() {
        for (int start : new int[] {0, 1, 100, 9950}) {
            RumourDesk desk = new RumourDesk();
            Checks.pass(desk, start);
            desk.person(0, 0, 0, 0, 0);
            desk.person(1, 1, 1, 0, 0);
            desk.set(1, 2, 1);
            desk.plain(1, 1, 1, 1);
            desk.begin(0, 0);
            desk.deny(0, 0);
            desk.hours(48);
            due("believes for 48 hours", BELIEVES, desk.knows(0, 0, 0));
            due("doubts for 48 hours", DOUBTS, desk.knows(1, 0, 0));
            desk.hours(1);
            for (int p = 0; p <= 1; p++) {
                due("forgot in the hour behind them", FORGOT, desk.knows(p, 0, 0));
                due("since then", start + 48, desk.knows(p, 0, 1));
                due("heard the latest", start, desk.knows(p, 0, 4));
                due("the version is kept", 1111, desk.knows(p, 0, 2));
                due("by whom, too", p == 0 ? 17 : 16, desk.knows(p, 0, 3));
            }
        }
    }

    /** Heard again 48 hours on, in the very hour in which it would be forgotten: it is not. */
    private static void heardInTheLastHour() {
        RumourDesk desk = withSaying(2, 0, 0);
        desk.begin(0, 0);
        desk.hours(48);
        desk.begin(1, 0);
        desk.set(1, 3, 9);
        desk.hours(1);
        due("still believes", BELIEVES, desk.knows(0, 0, 0));
        due("since the beginning", 0, desk.knows(0, 0, 1));
        due("heard the latest", 48, desk.knows(0, 0, 4));
        desk.set(1, 3, 0);
        desk.hours(47);
        due("47 hours on", BELIEVES, desk.knows(0, 0, 0));
        desk.hours(1);
        due("48 hours on", FORGOT, desk.knows(0, 0, 0));
    }

    /** Without tellers who has NEVER heard it, or FORGOT, stays so. */
    private static void neverStaysNever() {
        RumourDesk desk = withSaying(1, 9, 0);
        desk.hours(96);
        due("never", NEVER, desk.knows(0, 0, 0));
        due("no hour", Edges.NONE, desk.knows(0, 0, 1));
        desk.begin(0, 0);
        desk.hours(49);
        due("forgot", FORGOT, desk.knows(0, 0, 0));
        desk.hours(96);
        due("still", FORGOT, desk.knows(0, 0, 0));
        due("since then", 96 + 48, desk.knows(0, 0, 1));
    }

    /** One who reads, with a trust and a fear, brought to a state of saying 0 at an hour behind 50. */
    private static RumourDesk reader(int state, int trust, int fear) {
        RumourDesk desk = withSaying(1, fear, 0);
        desk.set(0, 0, trust);
        if (state == FORGOT) {
            desk.begin(0, 0);
        }
        desk.hours(51);
        if (state == BELIEVES || state == DOUBTS) {
            desk.begin(0, 0);
        }
        desk.set(0, 2, 1);
        if (state == DOUBTS) {
            desk.set(0, 0, 99);
            desk.set(0, 3, 0);
            desk.deny(0, 2);
            desk.set(0, 0, trust);
            desk.set(0, 3, fear);
        }
        desk.hours(1);
        return desk;
    }

    private static void known(RumourDesk desk, int state, int since, int by, int latest) {
        int[] want = {state, since, 1111, by, latest};
        for (int what = 0; what <= 4; what++) {
            due("knows " + what, want[what], desk.knows(0, 0, what));
        }
    }

    /** "who BELIEVES it: DOUBTS, if TRUST times FORCE is above 20 FEAR". */
    private static void deniedToThoseWhoBelieve() {
        for (int wording = 0; wording <= 2; wording++) {
            for (int fear = 0; fear <= 9; fear++) {
                for (int trust = 0; trust <= 99; trust++) {
                    RumourDesk desk = reader(BELIEVES, trust, fear);
                    boolean turns = trust * FORCES[wording] > 20 * fear;
                    String name = "wording " + wording + ", trust " + trust + ", fear " + fear;
                    due(name, turns ? 1 : 0, desk.deny(0, wording));
                    known(desk, turns ? DOUBTS : BELIEVES, turns ? 52 : 51, 17, 52);
                }
            }
        }
        for (int wording = 0; wording <= 2; wording++) {
            RumourDesk desk = reader(DOUBTS, 99, 0);
            due("who doubts has no other state", 0, desk.deny(0, wording));
            known(desk, DOUBTS, 51, 17, 52);
        }
    }

    /** "takes it (by the paper), BELIEVES, if 10 FEAR is above TRUST, else DOUBTS". */
    private static void deniedToThoseToWhomItIsNew() {
        for (int state : new int[] {NEVER, FORGOT}) {
            for (int fear = 0; fear <= 9; fear++) {
                for (int trust = 0; trust <= 99; trust++) {
                    RumourDesk desk = reader(state, trust, fear);
                    due("trust " + trust + ", fear " + fear, 1, desk.deny(0, trust % 2));
                    known(desk, 10 * fear > trust ? BELIEVES : DOUBTS, 52, 16, 52);
                }
            }
        }
    }

    /** "not by WORDING 2"; "all but who is left out by WORDING 2 heard it at NOW". */
    private static void unnamedLeavesOut() {
        RumourDesk never = reader(NEVER, 0, 9);
        due("never", 0, never.deny(0, 2));
        due("never still", NEVER, never.knows(0, 0, 0));
        RumourDesk forgot = reader(FORGOT, 0, 9);
        due("forgot", 0, forgot.deny(0, 2));
        known(forgot, FORGOT, 48, 17, 0);
        for (int s = 1; s <= 2; s++) {
            RumourDesk desk = reader(s, 0, 9);
            due("heard, but no other state", 0, desk.deny(0, 2));
            known(desk, s, 51, 17, 52);
        }
        due("counted all the same", 1, countedDenials(never));
        RumourDesk nobody = withSaying(0, 0, 0);
        due("nobody is there", 0, nobody.deny(0, 0));
        due("counted then, too", 1, countedDenials(nobody));
        RumourDesk all = withSaying(16, 0, 0);
        for (int p = 0; p < 16; p++) {
            all.set(p, 2, 1);
        }
        due("all sixteen take it", 16, all.deny(0, 0));
        due("none of them again", 0, all.deny(0, 1));
    }

    private static int countedDenials(RumourDesk desk) {
        return desk.told(0, 8);
    }

    private static void deniedAtTheLastHour() {
        RumourDesk desk = Scene.FULL.get();
        due("who forgot takes it", 1, desk.deny(3, 0) >= 1 ? 1 : 0);
        due("since the last hour", 9999, desk.knows(0, 3, 1));
        due("heard then", 9999, desk.knows(0, 3, 4));
    }

    /** "TRUST of all who READ is 15 less (not below 0)", "once for each DENIAL of it". */
    private static void trustNotBelowNothing() {
        for (int denials = 0; denials <= 7; denials++) {
            for (int trust = 0; trust <= 99; trust++) {
                RumourDesk desk = new RumourDesk();
                Checks.settle(desk, 2, 0, 0, 0);
                desk.set(0, 0, trust);
                desk.set(1, 0, trust);
                desk.set(0, 2, 1);
                desk.real(1, 1, 1, 1, true);
                desk.real(1, 1, 1, 1, true);
                for (int i = 0; i < denials; i++) {
                    desk.deny(0, i % 3);
                }
                desk.deny(1, 0);
                due("found", denials, desk.found(0));
                due("these count no more", 0, desk.told(0, 8));
                due("those of another do", 1, desk.told(1, 8));
                due("trust " + trust + " by " + denials, Math.max(0, trust - 15 * denials), desk.set(0, 0, 0));
                due("of who does not read", trust, desk.set(1, 0, 0));
                due("found again", 0, desk.found(0));
            }
        }
    }

    /** "HARM of a SAYING: the sum, over PERSONS who BELIEVE it, of WEIGHTS ..; of a TRUE one 0." */
    private static void harmOfNoneAndAll() {
        due("nobody there", 0, withSaying(0, 0, 0).harm(0));
        for (int believers = 0; believers <= 16; believers++) {
            RumourDesk desk = withSaying(16, 0, 0);
            desk.real(1, 1, 1, 1, true);
            for (int p = 0; p < believers; p++) {
                desk.begin(p, 0);
                desk.begin(p, 1);
            }
            for (int weight = 0; weight <= 9; weight++) {
                desk.weight(1, weight);
                due("harm", believers * weight, desk.harm(0));
                due("of a true one", 0, desk.harm(1));
                due("of both, foretold for no hours", believers * weight, desk.foretold(0));
            }
        }
        for (int state : new int[] {NEVER, DOUBTS, FORGOT}) {
            due("of state " + state, 0, reader(state, 0, 0).harm(0));
        }
    }

    /** Promise 15: each of sixteen in one state or another. */
    private static void reachOfNoneAndAll() {
        for (int s = 0; s <= 3; s++) {
            due("nobody there", 0, withSaying(0, 0, 0).reach(0, s));
            due("one in that state", 1, reader(s, 99, 0).reach(0, s));
            due("none in the next", 0, reader(s, 99, 0).reach(0, (s + 1) % 4));
        }
        RumourDesk desk = withSaying(16, 0, 0);
        for (int believers = 0; believers <= 15; believers++) {
            due("never", 16 - believers, desk.reach(0, NEVER));
            due("believe", believers, desk.reach(0, BELIEVES));
            desk.begin(believers, 0);
        }
        due("all believe", 16, desk.reach(0, BELIEVES));
        desk.hours(49);
        due("all forgot", 16, desk.reach(0, FORGOT));
    }

    private static int harmOfAll(RumourDesk desk) {
        int sum = 0;
        for (int s = 0; s < desk.count(1); s++) {
            sum += desk.harm(s);
        }
        return sum;
    }

    /** What harm there is h hours on, if some sayings (bits) are denied now. */
    private static int harmLater(int bits, int wording, int h) {
        RumourDesk desk = Scene.BUSY.get();
        for (int s = 0; s < Scene.BUSY.sayings; s++) {
            if ((bits >> s & 1) == 1) {
                desk.deny(s, wording);
            }
        }
        if (h > 0) {
            desk.hours(h);
        }
        return harmOfAll(desk);
    }

    /** "FORETOLD for h hours: HARM of all SAYINGS after h more HOURS": from none on to 96. */
    private static void foretoldAsItGoes() {
        for (int h = 0; h <= 96; h++) {
            due("foretold for " + h, harmLater(0, 0, h), Scene.BUSY.get().foretold(h));
        }
    }

    /** "of no DENIAL (3) and each WORDING (0, 1, 2) that with the least HARM foretold, .. the first told here". */
    private static void wordingByTrying() {
        for (int s = 0; s <= 5; s++) {
            for (int h : new int[] {0, 1, 12, 47, 48, 49, 96}) {
                int best = 3;
                int least = harmLater(0, 0, h);
                for (int wording = 0; wording <= 2; wording++) {
                    int harm = harmLater(1 << s, wording, h);
                    if (harm < least) {
                        least = harm;
                        best = wording;
                    }
                }
                due("wording of " + s + " for " + h, best, Scene.BUSY.get().wording(s, h));
            }
        }
    }

    /** A reader at a place of one's own, who believes the saying or has never heard it. */
    private static void reading(RumourDesk desk, int trust, int fear, boolean believes) {
        int p = desk.person(0, 0, 0, fear, 19);
        desk.set(p, 0, trust);
        desk.set(p, 2, 1);
        if (believes) {
            desk.begin(p, 0);
        }
    }

    /** Of like ones: 3 ahead of 0, 0 ahead of 1 and 2, 1 ahead of 2; and each where it is the best alone. */
    private static void wordingOfLikeOnes() {
        RumourDesk none = withSaying(0, 0, 0);
        due("all four alike", 3, none.wording(0, 0));
        RumourDesk any = withSaying(0, 0, 0);
        reading(any, 21, 1, true);
        due("any of the three helps", 0, any.wording(0, 0));
        RumourDesk named = withSaying(0, 0, 0);
        reading(named, 20, 1, true);
        due("0 and 1 help, 2 just not", 0, named.wording(0, 0));
        RumourDesk longOne = withSaying(0, 0, 0);
        reading(longOne, 6, 1, true);
        due("1 helps, 0 just not", 1, longOne.wording(0, 0));
        RumourDesk nothing = withSaying(0, 0, 0);
        reading(nothing, 4, 1, true);
        due("1 just does not help", 3, nothing.wording(0, 0));
        RumourDesk unnamed = withSaying(0, 0, 0);
        reading(unnamed, 21, 1, true);
        reading(unnamed, 9, 1, false);
        due("0 and 1 are believed by one more", 2, unnamed.wording(0, 0));
        RumourDesk alike = withSaying(0, 0, 0);
        reading(alike, 6, 1, true);
        reading(alike, 21, 1, true);
        reading(alike, 9, 1, false);
        due("1 and 2 alike, 0 and 3 worse", 1, alike.wording(0, 0));
        RumourDesk even = withSaying(0, 0, 0);
        reading(even, 20, 1, true);
        reading(even, 9, 1, false);
        due("as much gained as lost", 3, even.wording(0, 0));
    }

    /** "those of them, all denied at NOW in WORDING 0 .., by which HARM foretold is least; .. the fewest". */
    private static void planByTrying() {
        for (int h : new int[] {0, 1, 24, 47, 48}) {
            int[] harm = new int[64];
            for (int bits = 0; bits < 64; bits++) {
                harm[bits] = harmLater(bits, 0, h);
            }
            for (int set = 0; set < 64; set++) {
                if (Integer.bitCount(set) <= 4) {
                    due("plan of " + set + " for " + h, bestOf(set, harm), Scene.BUSY.get().plan(set, h));
                }
            }
        }
    }

    private static int bestOf(int set, int[] harm) {
        int best = 0;
        for (int bits = 0; bits <= set; bits++) {
            boolean isFewer = Integer.bitCount(bits) < Integer.bitCount(best);
            if ((bits & ~set) == 0 && (harm[bits] < harm[best] || harm[bits] == harm[best] && isFewer)) {
                best = bits;
            }
        }
        return best;
    }

    /** Four of eight at most; what does not lower the harm is not denied. */
    private static void planOfLikeOnes() {
        for (int set = 0; set < 256; set++) {
            RumourDesk desk = new RumourDesk();
            Checks.settle(desk, 1, 0, 1, 0);
            desk.set(0, 2, 1);
            for (int s = 0; s < 8; s++) {
                desk.plain(0, s, 0, 0);
                desk.begin(0, s);
            }
            int want = Integer.bitCount(set) <= 4 ? set : Edges.BAD;
            due("all help: plan of " + set, want, desk.plan(set, 0));
            desk.weight(3, 0);
            due("3 does no harm: plan of " + set, want == Edges.BAD ? want : set & ~8, desk.plan(set, 0));
            due("47 hours are too few to forget", want == Edges.BAD ? want : set & ~8, desk.plan(set, 48));
            desk.hours(1);
            due("48 are enough, denied or not", want == Edges.BAD ? want : 0, desk.plan(set, 48));
        }
    }

    /** "all denied at NOW in WORDING 0": FORCE 3 must do, though FORCE 5 would. */
    private static void planByTheShortWording() {
        for (int trust = 0; trust <= 99; trust++) {
            for (int fear = 0; fear <= 9; fear++) {
                RumourDesk desk = withSaying(0, 0, 0);
                reading(desk, trust, fear, true);
                due("trust " + trust + ", fear " + fear, 3 * trust > 20 * fear ? 1 : 0, desk.plan(1, 0));
            }
        }
    }
}
