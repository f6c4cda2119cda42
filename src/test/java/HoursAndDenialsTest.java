/** Promises 14 to 21. */
public final class HoursAndDenialsTest {
    private static final int BAD = -1, NOT = -2, CAST = -12;
    private static final int NEVER = 0, BELIEVES = 1, DOUBTS = 2, FORGOT = 3;
    private static final Checks CHECKS = new Checks();

    public static void main(String[] args) {
        limitsOfHours();
        loudness();
        placesByHours();
        believingOrDoubting();
        doubtingThenBelieving();
        leastTellerAndHabit();
        allByWhatWasAhead();
        forgetting();
        hearingAgain();
        reach();
        harm();
        denyThoseWhoBelieve();
        denyThoseToWhomItIsNew();
        denyUnnamed();
        denyWrongly();
        found();
        foretold();
        wording();
        plan();
        CHECKS.end();
    }

    private static void due(String call, long want, long got) {
        CHECKS.due(call, want, got);
    }

    private static void limitsOfHours() {
        RumourDesk desk = new RumourDesk();
        due("hours(0)", BAD, desk.hours(0));
        due("hours(-1)", BAD, desk.hours(-1));
        due("hours(97)", BAD, desk.hours(97));
        due("hours(96)", 96, desk.hours(96));
        for (int n = 2; n <= 104; n++) {
            due("hours on", 96 * n, desk.hours(96));
        }
        due("hours beyond the last", NOT, desk.hours(16));
        due("NOW stays", 9984, desk.count(4));
        due("hours to the last", 9999, desk.hours(15));
        due("hours(1) behind the last", NOT, desk.hours(1));
        due("BAD is ahead of NOT", BAD, desk.hours(97));
        due("the future has no last hour", 0, desk.foretold(96));
    }

    private static void loudness() {
        for (int fear = 0; fear <= 9; fear++) {
            for (int weight = 0; weight <= 9; weight++) {
                RumourDesk desk = new RumourDesk();
                desk.person(0, 0, 0, fear, 0);
                desk.person(0, 0, 0, 9, 0);
                desk.plain(0, 6, 0, 0);
                desk.weight(6, weight);
                desk.begin(0, 0);
                desk.hours(1);
                due("fear " + fear + ", weight " + weight, fear * weight >= 10 ? BELIEVES : NEVER,
                        desk.knows(1, 0, 0));
            }
        }
        RumourDesk desk = new RumourDesk();
        Checks.settle(desk, 3, 0, 5, 0);
        desk.set(0, 1, 2);
        desk.weight(7, 0);
        desk.plain(0, 6, 0, 0);
        desk.begin(0, 0);
        desk.hours(1);
        due("told with another what", 700, desk.knows(1, 0, 2));
        due("harm by own versions", 5, desk.harm(0));
        desk.set(0, 3, 0);
        desk.person(0, 0, 0, 9, 0);
        desk.hours(1);
        due("those with a light what are not loud", NEVER, desk.knows(3, 0, 0));
    }

    private static void placesByHours() {
        RumourDesk desk = new RumourDesk();
        desk.person(0, 1, 2, 9, 0);
        desk.person(3, 4, 2, 0, 0);
        desk.person(3, 1, 5, 0, 0);
        desk.plain(0, 0, 0, 0);
        desk.begin(0, 0);
        desk.hours(8);
        due("nobody at home", NEVER, desk.knows(2, 0, 0));
        desk.hours(1);
        due("at work", BELIEVES, desk.knows(2, 0, 0));
        due("since", 8, desk.knows(2, 0, 1));
        desk.hours(9);
        due("not at the bar yet", NEVER, desk.knows(1, 0, 0));
        desk.hours(1);
        due("at the bar", BELIEVES, desk.knows(1, 0, 0));
        due("since then", 18, desk.knows(1, 0, 1));
        due("heard the latest at work", 17, desk.knows(2, 0, 4));
    }

    private static void believingOrDoubting() {
        for (int tellers = 1; tellers <= 4; tellers++) {
            for (int doubt = 0; doubt <= 19; doubt++) {
                RumourDesk desk = new RumourDesk();
                Checks.settle(desk, tellers, 0, 9, 0);
                desk.person(0, 0, 0, 4, doubt);
                desk.plain(0, 0, 0, 0);
                for (int p = 0; p < tellers; p++) {
                    desk.begin(p, 0);
                }
                desk.hours(1);
                due(tellers + " tellers, doubt " + doubt, 4 + 2 * tellers > doubt ? BELIEVES : DOUBTS,
                        desk.knows(tellers, 0, 0));
            }
        }
    }

    private static void doubtingThenBelieving() {
        RumourDesk desk = new RumourDesk();
        desk.person(0, 0, 0, 9, 0);
        desk.person(1, 0, 0, 9, 0);
        desk.person(0, 0, 0, 4, 6);
        desk.set(0, 1, 1);
        desk.plain(1, 1, 1, 1);
        desk.begin(1, 0);
        desk.begin(0, 0);
        desk.hours(8);
        due("doubts", DOUBTS, desk.knows(2, 0, 0));
        due("since the first hour", 0, desk.knows(2, 0, 1));
        due("heard each hour", 7, desk.knows(2, 0, 4));
        desk.hours(2);
        due("believes by two", BELIEVES, desk.knows(2, 0, 0));
        due("since two were there", 8, desk.knows(2, 0, 1));
        due("the version stays", 2111, desk.knows(2, 0, 2));
        due("by the first", 0, desk.knows(2, 0, 3));
        due("heard the latest", 9, desk.knows(2, 0, 4));
    }

    private static void leastTellerAndHabit() {
        for (int habit = 0; habit <= 4; habit++) {
            RumourDesk desk = new RumourDesk();
            desk.person(0, 0, 0, 0, 0);
            desk.person(0, 0, 0, 1, 0);
            Checks.settle(desk, 2, 0, 9, 0);
            desk.set(2, 1, habit);
            desk.set(3, 1, 1);
            desk.plain(9, 9, 9, 9);
            desk.begin(3, 0);
            desk.begin(2, 0);
            desk.begin(1, 0);
            desk.hours(1);
            int[] want = {9999, 999, 9099, 9909, 9990};
            due("told with habit " + habit, want[habit], desk.knows(0, 0, 2));
            due("by the least who is loud", 2, desk.knows(0, 0, 3));
            due("the teller's own stays", 9999, desk.knows(2, 0, 2));
        }
        RumourDesk desk = new RumourDesk();
        Checks.settle(desk, 2, 0, 9, 0);
        desk.set(0, 1, 3);
        desk.plain(0, 0, 8, 0);
        desk.begin(0, 0);
        desk.hours(1);
        due("one more", 90, desk.knows(1, 0, 2));
    }

    private static void allByWhatWasAhead() {
        RumourDesk desk = new RumourDesk();
        desk.person(0, 0, 0, 9, 0);
        desk.person(0, 1, 0, 9, 0);
        desk.person(1, 1, 0, 9, 0);
        desk.person(1, 2, 0, 9, 0);
        desk.plain(0, 0, 0, 0);
        desk.hours(7);
        desk.begin(0, 0);
        desk.hours(1);
        due("one at home", BELIEVES, desk.knows(1, 0, 0));
        due("not the next at once", NEVER, desk.knows(2, 0, 0));
        desk.hours(1);
        due("the next at work", BELIEVES, desk.knows(2, 0, 0));
        RumourDesk chain = new RumourDesk();
        Checks.settle(chain, 4, 0, 9, 11);
        chain.plain(0, 0, 0, 0);
        chain.begin(0, 0);
        chain.hours(1);
        due("one teller is too few, whoever comes in the hour", DOUBTS, chain.knows(3, 0, 0));
        due("nobody of them", 3, chain.reach(0, DOUBTS));
    }

    private static void forgetting() {
        RumourDesk desk = new RumourDesk();
        desk.person(0, 0, 0, 9, 0);
        desk.person(1, 1, 1, 9, 19);
        desk.person(2, 2, 0, 9, 0);
        desk.set(1, 2, 1);
        desk.plain(1, 2, 3, 4);
        desk.hours(1);
        desk.begin(0, 0);
        desk.deny(0, 0);
        desk.set(1, 0, 99);
        desk.deny(0, 1);
        due("doubts by the paper", DOUBTS, desk.knows(1, 0, 0));
        Checks.pass(desk, 48);
        due("47 hours: believes", BELIEVES, desk.knows(2, 0, 0));
        due("47 hours: still doubts", DOUBTS, desk.knows(1, 0, 0));
        desk.hours(1);
        due("48 hours: forgot", FORGOT, desk.knows(1, 0, 0));
        due("since", 49, desk.knows(1, 0, 1));
        due("the version is kept", 1234, desk.knows(1, 0, 2));
        due("by whom is kept", 16, desk.knows(1, 0, 3));
        due("the latest is kept", 1, desk.knows(1, 0, 4));
        due("who hears it daily does not", BELIEVES, desk.knows(0, 0, 0));
        RumourDesk alone = new RumourDesk();
        alone.person(0, 0, 0, 9, 0);
        alone.plain(0, 0, 0, 0);
        alone.begin(0, 0);
        alone.hours(48);
        due("a loud one alone: believes", BELIEVES, alone.knows(0, 0, 0));
        alone.hours(1);
        due("a loud one alone: forgot", FORGOT, alone.knows(0, 0, 0));
        alone.hours(96);
        due("forgot stays", 48, alone.knows(0, 0, 1));
    }

    private static void hearingAgain() {
        RumourDesk desk = new RumourDesk();
        desk.person(0, 0, 0, 0, 0);
        desk.plain(1, 2, 3, 4);
        desk.begin(0, 0);
        Checks.pass(desk, 49);
        due("forgot", FORGOT, desk.knows(0, 0, 0));
        desk.person(0, 0, 0, 9, 0);
        desk.set(1, 1, 4);
        desk.set(0, 4, 2);
        desk.begin(1, 0);
        desk.hours(1);
        due("takes it anew, and doubts", DOUBTS, desk.knows(0, 0, 0));
        due("the new version", 1235, desk.knows(0, 0, 2));
        due("by the teller", 1, desk.knows(0, 0, 3));
        due("since now", 49, desk.knows(0, 0, 1));
        desk.set(0, 4, 1);
        desk.hours(1);
        due("then believes", BELIEVES, desk.knows(0, 0, 0));
    }

    private static void reach() {
        RumourDesk desk = new RumourDesk();
        Checks.settle(desk, 2, 0, 9, 0);
        Checks.settle(desk, 3, 1, 9, 0);
        Checks.settle(desk, 1, 0, 0, 19);
        desk.plain(0, 0, 0, 0);
        desk.begin(0, 0);
        desk.hours(1);
        due("never", 3, desk.reach(0, NEVER));
        due("believe", 2, desk.reach(0, BELIEVES));
        due("doubt", 1, desk.reach(0, DOUBTS));
        due("forgot", 0, desk.reach(0, FORGOT));
        due("state 4", BAD, desk.reach(0, 4));
        due("state -1", BAD, desk.reach(0, -1));
        due("no such saying", BAD, desk.reach(1, 0));
    }

    private static void harm() {
        RumourDesk desk = new RumourDesk();
        Checks.settle(desk, 3, 0, 0, 0);
        desk.plain(0, 4, 0, 0);
        desk.real(0, 4, 0, 0, true);
        desk.plain(0, 8, 0, 0);
        desk.weight(4, 7);
        for (int p = 0; p < 3; p++) {
            desk.begin(p, 0);
            desk.begin(p, 1);
        }
        desk.begin(0, 2);
        due("harm", 21, desk.harm(0));
        due("harm of a true one", 0, desk.harm(1));
        due("harm by another weight", 5, desk.harm(2));
        desk.weight(4, 0);
        due("harm by the weight now", 0, desk.harm(0));
        due("harm of nothing", BAD, desk.harm(3));
        due("harm of -1", BAD, desk.harm(-1));
    }

    private static void denyThoseWhoBelieve() {
        int[] forces = {3, 5, 1};
        for (int wording = 0; wording <= 2; wording++) {
            for (int trust = 0; trust <= 99; trust += 3) {
                for (int fear = 0; fear <= 9; fear++) {
                    RumourDesk desk = new RumourDesk();
                    Checks.settle(desk, 1, 0, fear, 0);
                    desk.set(0, 0, trust);
                    desk.set(0, 2, 1);
                    desk.plain(1, 2, 3, 4);
                    desk.begin(0, 0);
                    desk.hours(2);
                    boolean turns = trust * forces[wording] > 20 * fear;
                    due("deny", turns ? 1 : 0, desk.deny(0, wording));
                    due("the state", turns ? DOUBTS : BELIEVES, desk.knows(0, 0, 0));
                    due("since", turns ? 2 : 0, desk.knows(0, 0, 1));
                    due("by whom stays", 17, desk.knows(0, 0, 3));
                    due("heard at NOW", 2, desk.knows(0, 0, 4));
                }
            }
        }
        RumourDesk desk = new RumourDesk();
        Checks.settle(desk, 1, 0, 0, 0);
        desk.plain(1, 2, 3, 4);
        desk.begin(0, 0);
        desk.hours(1);
        due("who does not read", 0, desk.deny(0, 1));
        due("believes on", BELIEVES, desk.knows(0, 0, 0));
        due("heard nothing", 0, desk.knows(0, 0, 4));
    }

    private static void denyThoseToWhomItIsNew() {
        for (int wording = 0; wording <= 1; wording++) {
            for (int trust = 0; trust <= 99; trust += 10) {
                for (int fear = 0; fear <= 9; fear++) {
                    RumourDesk desk = new RumourDesk();
                    Checks.settle(desk, 2, 0, fear, 0);
                    desk.set(0, 0, trust);
                    desk.set(0, 2, 1);
                    desk.plain(1, 2, 3, 4);
                    desk.hours(3);
                    due("deny", 1, desk.deny(0, wording));
                    due("takes it", 10 * fear > trust ? BELIEVES : DOUBTS, desk.knows(0, 0, 0));
                    due("since", 3, desk.knows(0, 0, 1));
                    due("with its parts", 1234, desk.knows(0, 0, 2));
                    due("by the paper", 16, desk.knows(0, 0, 3));
                    due("heard at NOW", 3, desk.knows(0, 0, 4));
                    due("the other does not read", NEVER, desk.knows(1, 0, 0));
                }
            }
        }
        RumourDesk desk = new RumourDesk();
        desk.person(0, 0, 0, 0, 0);
        desk.person(0, 0, 0, 5, 0);
        desk.set(0, 2, 1);
        desk.set(1, 1, 4);
        desk.plain(1, 2, 3, 4);
        desk.begin(1, 0);
        desk.hours(1);
        desk.set(1, 3, 0);
        Checks.pass(desk, 48);
        due("heard from a person", 1235, desk.knows(0, 0, 2));
        due("forgot", FORGOT, desk.knows(0, 0, 0));
        due("deny to one who forgot", 1, desk.deny(0, 0));
        due("takes it anew", DOUBTS, desk.knows(0, 0, 0));
        due("by the paper's version", 1234, desk.knows(0, 0, 2));
        due("deny to one who doubts", 0, desk.deny(0, 1));
    }

    private static void denyUnnamed() {
        RumourDesk desk = new RumourDesk();
        Checks.settle(desk, 3, 0, 0, 0);
        for (int p = 0; p < 3; p++) {
            desk.set(p, 2, 1);
        }
        desk.plain(1, 2, 3, 4);
        desk.begin(0, 0);
        Checks.pass(desk, 49);
        desk.begin(1, 0);
        desk.hours(1);
        due("unnamed", 1, desk.deny(0, 2));
        due("who forgot", FORGOT, desk.knows(0, 0, 0));
        due("heard it not", 0, desk.knows(0, 0, 4));
        due("who believed", DOUBTS, desk.knows(1, 0, 0));
        due("who never heard", NEVER, desk.knows(2, 0, 0));
        desk.hours(1);
        due("unnamed again", 0, desk.deny(0, 2));
        due("who doubts heard it", 51, desk.knows(1, 0, 4));
        due("and doubts since", 50, desk.knows(1, 0, 1));
    }

    private static void denyWrongly() {
        RumourDesk desk = new RumourDesk();
        Checks.settle(desk, 1, 0, 0, 0);
        desk.set(0, 2, 1);
        desk.real(1, 1, 1, 1, false);
        desk.real(1, 1, 1, 1, true);
        due("deny one that may not be told", NOT, desk.deny(0, 0));
        due("it changes nothing", 0, desk.told(0, 8));
        due("nobody hears", NEVER, desk.knows(0, 0, 0));
        due("BAD is ahead of NOT", BAD, desk.deny(0, 3));
        due("wording -1", BAD, desk.deny(1, -1));
        due("no such saying", BAD, desk.deny(2, 0));
        due("one that may be told", 1, desk.deny(1, 0));
        desk.planted(1, 100);
        due("a planted one ahead of its hour", 1, desk.deny(2, 0));
    }

    private static void found() {
        RumourDesk desk = new RumourDesk();
        Checks.settle(desk, 3, 0, 0, 0);
        desk.set(0, 2, 1);
        desk.set(1, 2, 1);
        desk.set(1, 0, 31);
        desk.real(1, 1, 1, 1, true);
        desk.plain(1, 1, 1, 1);
        due("found, never denied", 0, desk.found(0));
        desk.deny(0, 0);
        desk.deny(0, 2);
        due("found of a plain one", CAST, desk.found(1));
        due("found of nothing", BAD, desk.found(2));
        due("found", 2, desk.found(0));
        due("trust is less", 20, desk.set(0, 0, 20));
        due("not below 0", 1, desk.set(1, 0, 14));
        due("who does not read", 50, desk.set(2, 0, 50));
        due("these count no more", 0, desk.told(0, 8));
        due("found again", 0, desk.found(0));
        desk.deny(0, 1);
        desk.set(0, 2, 0);
        desk.set(2, 2, 1);
        due("found anew", 1, desk.found(0));
        due("who reads no more", 20, desk.set(0, 0, 20));
        due("down to 0", 0, desk.set(1, 0, 0));
        due("who reads now", 35, desk.set(2, 0, 35));
    }

    private static void foretold() {
        RumourDesk desk = new RumourDesk();
        Checks.settle(desk, 4, 0, 9, 0);
        desk.plain(0, 1, 0, 0);
        desk.plain(0, 2, 0, 0);
        desk.real(0, 1, 0, 0, true);
        desk.weight(2, 9);
        desk.begin(0, 0);
        desk.begin(1, 1);
        desk.begin(2, 2);
        due("foretold(0)", 14, desk.foretold(0));
        due("foretold(1)", 56, desk.foretold(1));
        due("nothing of it stays", 14, desk.foretold(0));
        due("NOW stays", 0, desk.count(4));
        due("foretold(96)", 56, desk.foretold(96));
        due("foretold(97)", BAD, desk.foretold(97));
        due("foretold(-1)", BAD, desk.foretold(-1));
        RumourDesk alone = new RumourDesk();
        Checks.settle(alone, 1, 0, 9, 0);
        alone.plain(0, 1, 0, 0);
        alone.begin(0, 0);
        due("foretold(48)", 5, alone.foretold(48));
        due("foretold(49): forgot", 0, alone.foretold(49));
        Checks.pass(alone, 9999);
        alone.begin(0, 0);
        due("behind the last hour it goes on", 5, alone.foretold(48));
        due("and is forgotten", 0, alone.foretold(49));
    }

    private static void wording() {
        RumourDesk desk = new RumourDesk();
        desk.person(0, 0, 0, 2, 19);
        desk.set(0, 2, 1);
        desk.plain(0, 1, 0, 0);
        due("nobody has heard: no denial", 3, desk.wording(0, 0));
        desk.begin(0, 0);
        desk.set(0, 0, 14);
        due("two forces suffice: the first", 0, desk.wording(0, 0));
        desk.set(0, 0, 13);
        due("only the long one suffices", 1, desk.wording(0, 0));
        desk.set(0, 0, 8);
        due("none suffices", 3, desk.wording(0, 0));
        desk.set(0, 0, 41);
        desk.person(1, 1, 1, 9, 0);
        desk.set(1, 2, 1);
        due("the named ones carry it further", 2, desk.wording(0, 0));
        due("nothing of it stays", NEVER, desk.knows(1, 0, 0));
        due("nor of the first", BELIEVES, desk.knows(0, 0, 0));
        due("by then it is forgotten", 3, desk.wording(0, 49));
        due("h 97", BAD, desk.wording(0, 97));
        due("h -1", BAD, desk.wording(0, -1));
        due("no such saying", BAD, desk.wording(1, 0));
        desk.real(0, 0, 0, 0, false);
        desk.real(0, 0, 0, 0, true);
        due("may not be told", NOT, desk.wording(1, 0));
        due("BAD is ahead of NOT", BAD, desk.wording(1, 97));
        due("a true one does no harm", 3, desk.wording(2, 96));
    }

    private static void plan() {
        RumourDesk desk = new RumourDesk();
        desk.person(0, 0, 0, 1, 19);
        desk.set(0, 2, 1);
        due("plan of nothing", 0, desk.plan(0, 0));
        due("a saying that is not there", BAD, desk.plan(1, 0));
        desk.plain(0, 1, 0, 0);
        desk.plain(0, 1, 0, 0);
        desk.plain(0, 2, 0, 0);
        desk.plain(0, 1, 0, 0);
        desk.plain(0, 1, 0, 0);
        desk.real(0, 1, 0, 0, false);
        desk.real(0, 1, 0, 0, true);
        desk.weight(2, 0);
        for (int s = 0; s < 5; s++) {
            if (s != 1) {
                desk.begin(0, s);
            }
        }
        desk.begin(0, 6);
        due("plan of all that help", 1 | 8 | 16, desk.plan(1 | 2 | 8 | 16, 0));
        due("only of the set", 16, desk.plan(2 | 16, 0));
        due("not where harm stays", 1, desk.plan(1 | 4 | 64, 0));
        due("nothing of it stays", BELIEVES, desk.knows(0, 0, 0));
        due("five of them", BAD, desk.plan(1 | 2 | 4 | 8 | 16, 0));
        due("one may not be told", NOT, desk.plan(1 | 32, 0));
        due("BAD is ahead of NOT", BAD, desk.plan(1 | 32, 49));
        due("a bit above", BAD, desk.plan(128, 0));
        due("below 0", BAD, desk.plan(-1, 0));
        due("the least number", BAD, desk.plan(Integer.MIN_VALUE, 0));
        due("h -1", BAD, desk.plan(1, -1));
        due("h 48", 1, desk.plan(1, 48));
        desk.hours(1);
        due("forgotten at 48", 0, desk.plan(1, 48));
    }
}
