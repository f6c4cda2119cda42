import java.util.Arrays;

/** Edges of the terms' fourth part and of promises 25 to 33: none, twelve, more; the first hour and the last. */
public final class EdgesOfKinTest {
    private static final Edges EDGES = new Edges();

    public static void main(String[] args) {
        noneToSixteenVersions();
        likeOnesCountOnce();
        oneToFourChanges();
        noneToTwelveReports();
        clearedReportsCountNoMore();
        loudFromTheBeginningOn();
        placesOfOneWhoBegan();
        heardInAnHourToldInTheNext();
        allReportsMustAgree();
        onlyAtOneHour();
        firstOfNoneAndAll();
        postsOfNobody();
        postsByTrying();
        postsUpToTheLastHour();
        checkByTrying();
        checkOfNoneAndAll();
        EDGES.end();
    }

    private static void due(String call, long want, long got) {
        EDGES.due(call, want, got);
    }

    /** "12 at most (of more: the first)": one person more and one version more each time. */
    private static void noneToSixteenVersions() {
        RumourDesk nobody = new RumourDesk();
        nobody.plain(0, 0, 0, 0);
        noVersions(nobody);
        nobody.person(0, 0, 0, 0, 0);
        noVersions(nobody);
        int[] habits = {4, 4, 4, 4, 4, 4, 4, 4, 4, 3, 4, 4, 4, 4, 4};
        int[] come = {0, 1, 2, 3, 4, 5, 6, 7, 8, 9, 19, 10, 11, 12, 13, 14};
        for (int n = 1; n <= 16; n++) {
            RumourDesk desk = Checks.withOneWhoKnows();
            for (int i = 1, last = 0; i < n; i++) {
                last = Checks.teach(desk, last, habits[i - 1]);
            }
            int[] versions = Arrays.copyOf(come, n);
            Arrays.sort(versions);
            int shown = Math.min(n, 12);
            due(n + " versions", shown, desk.versions(0));
            for (int i = 0; i < shown; i++) {
                due("version " + i + " of " + n, versions[i], desk.version(0, i, 0));
                due("joined to, of " + n, joined(versions[i]), desk.version(0, i, 1));
            }
            for (int what = 0; what <= 1; what++) {
                due("no version " + shown, Edges.BAD, desk.version(0, shown, what));
                due("no version -1", Edges.BAD, desk.version(0, -1, what));
            }
            due("each is one change from another", shown - 1, desk.kin(0));
        }
    }

    private static void noVersions(RumourDesk desk) {
        due("no versions", 0, desk.versions(0));
        due("no first", Edges.BAD, desk.version(0, 0, 0));
        due("nothing joined", Edges.BAD, desk.version(0, 0, 1));
        due("no changes", 0, desk.kin(0));
    }

    /** To which of 0 .. 9, 10 .. 14, 19 a version is joined: all below 10 to 0, each other by its last part. */
    private static int joined(int version) {
        return version == 0 ? Edges.NONE : version < 10 ? 0 : version % 10;
    }

    /** "unlike ones": sixteen persons with one version, and with two. */
    private static void likeOnesCountOnce() {
        RumourDesk desk = new RumourDesk();
        Checks.settle(desk, 16, 0, 9, 0);
        desk.plain(9, 9, 9, 9);
        desk.begin(15, 0);
        desk.hours(1);
        due("sixteen believe", 16, desk.reach(0, 1));
        due("one version", 1, desk.versions(0));
        due("no changes", 0, desk.kin(0));
        desk.plain(9, 9, 9, 9);
        desk.set(15, 1, 1);
        desk.begin(15, 1);
        desk.hours(1);
        due("two versions", 2, desk.versions(1));
        due("0 behind 9 comes first", 999, desk.version(1, 0, 0));
        due("the one from without is joined to it", 0, desk.version(1, 1, 1));
        due("one change", 1, desk.kin(1));
    }

    /** "Two are as far as PARTS differ": by one part up to all four, whatever the parts are. */
    private static void oneToFourChanges() {
        int[][] habits = {{1}, {4}, {1, 2}, {3, 4}, {1, 2, 3}, {2, 3, 4}, {1, 2, 3, 4}, {4, 3, 2, 1}, {2, 2, 2}};
        int[] far = {1, 1, 2, 2, 3, 3, 4, 4, 1};
        for (int i = 0; i < habits.length; i++) {
            RumourDesk desk = Checks.withOneWhoKnows();
            Checks.teach(desk, 0, habits[i]);
            due("two versions", 2, desk.versions(0));
            due("so many changes", far[i], desk.kin(0));
            due("the second is joined to the first", 0, desk.version(0, 1, 1));
        }
    }

    /** "REPORTS 0 .. 11, as they come"; promise 29: "All REPORTS go: how many." */
    private static void noneToTwelveReports() {
        for (int n = 0; n <= 12; n++) {
            RumourDesk desk = new RumourDesk();
            desk.person(0, 0, 0, 9, 0);
            desk.plain(0, 0, 0, 0);
            for (int i = 0; i < n; i++) {
                due("report " + i, i, desk.report(i % 2 * 5, i % 2 * 23, i % 2 == 0));
            }
            due("reports", n, desk.count(3));
            due("all go", n, desk.clear());
            due("none is left", 0, desk.count(3));
            due("it could have begun at any hour", 1, desk.could(0, 0, 23));
            due("a new first one", 0, desk.report(0, 0, true));
        }
    }

    private static void clearedReportsCountNoMore() {
        for (int hour = 0; hour <= 23; hour++) {
            for (int told = 0; told <= 1; told++) {
                RumourDesk desk = new RumourDesk();
                desk.person(told, told, told, 9, 0);
                desk.plain(0, 0, 0, 0);
                desk.report(0, hour, told == 1);
                due("it could not have begun", 0, desk.could(0, 0, 0));
                due("one goes", 1, desk.clear());
                due("it could have begun", 1, desk.could(0, 0, 0));
                desk.report(told, 23, true);
                due("by the new report alone, too", 1, desk.could(0, 0, 0));
            }
        }
    }

    /** "(ahead of the hour of beginning nobody is)": each hour of beginning against each hour of a report. */
    private static void loudFromTheBeginningOn() {
        for (int hour = 0; hour <= 23; hour++) {
            for (int told = 0; told <= 1; told++) {
                RumourDesk desk = new RumourDesk();
                desk.person(3, 3, 3, 2, 0);
                desk.person(3, 3, 3, 1, 19);
                desk.plain(0, 0, 0, 0);
                desk.report(3, hour, told == 1);
                for (int from = 0; from <= 23; from++) {
                    boolean isLoud = hour >= from;
                    due("report " + told + " at " + hour + ", begun at " + from, isLoud == (told == 1) ? 1 : 0,
                            desk.could(0, 0, from));
                    due("begun with one who is never loud", 1 - told, desk.could(0, 1, from));
                }
            }
        }
    }

    /** "at the hour someone at the PLACE is LOUD": by the hours of the day from 0 to 23. */
    private static void placesOfOneWhoBegan() {
        for (int place = 0; place <= 5; place++) {
            for (int hour = 0; hour <= 23; hour++) {
                RumourDesk desk = new RumourDesk();
                desk.person(0, 5, 2, 9, 0);
                desk.plain(0, 0, 0, 0);
                desk.report(place, hour, true);
                due("at " + place + " at " + hour, desk.where(0, hour) == place ? 1 : 0, desk.could(0, 0, 0));
                desk.clear();
                desk.report(place, hour, false);
                due("not at " + place + " at " + hour, desk.where(0, hour) == place ? 0 : 1, desk.could(0, 0, 0));
            }
        }
    }

    /** "by what was ahead of that HOUR": who hears it in the last hour together is loud elsewhere in the next. */
    private static void heardInAnHourToldInTheNext() {
        int[] lastTogether = {7, 17, 21};
        int[][] others = {{0, 4, 4}, {3, 1, 4}, {4, 3, 2}};
        int[] elsewhere = {4, 4, 4};
        for (int i = 0; i < 3; i++) {
            RumourDesk desk = new RumourDesk();
            desk.person(0, 1, 2, 9, 0);
            desk.person(others[i][0], others[i][1], others[i][2], 9, 0);
            desk.plain(0, 0, 0, 0);
            int next = lastTogether[i] + 1;
            desk.report(elsewhere[i], next, true);
            due("begun in the last hour together", 1, desk.could(0, 0, lastTogether[i]));
            due("begun an hour later", 0, desk.could(0, 0, next));
            desk.clear();
            desk.report(elsewhere[i], next, false);
            due("nobody there: begun in the last hour together", 0, desk.could(0, 0, lastTogether[i]));
            due("nobody there: begun an hour later", 1, desk.could(0, 0, next));
        }
    }

    /** "agree with all REPORTS": twelve of them, of which one at most is wrong. */
    private static void allReportsMustAgree() {
        for (int wrong = -1; wrong < 12; wrong++) {
            RumourDesk desk = new RumourDesk();
            desk.person(0, 0, 0, 9, 0);
            desk.plain(0, 0, 0, 0);
            for (int i = 0; i < 12; i++) {
                boolean isLoud = 2 * i >= 10;
                desk.report(0, 2 * i, isLoud == (i != wrong));
            }
            due("report " + wrong + " is wrong", wrong < 0 ? 1 : 0, desk.could(0, 0, 10));
        }
        RumourDesk both = new RumourDesk();
        both.person(0, 0, 0, 9, 0);
        both.plain(0, 0, 0, 0);
        both.report(0, 12, true);
        both.report(0, 12, false);
        due("someone and nobody at once", 0, both.first(0));
    }

    /** Promise 31: "at some hour": be it the first or the last alone. */
    private static void onlyAtOneHour() {
        for (int hour = 0; hour <= 23; hour++) {
            RumourDesk desk = new RumourDesk();
            desk.person(1, 1, 1, 0, 0);
            desk.person(0, 0, 0, 9, 0);
            desk.plain(0, 0, 0, 0);
            desk.report(0, hour, true);
            if (hour > 0) {
                desk.report(0, hour - 1, false);
            }
            for (int from = 0; from <= 23; from++) {
                due("begun at " + from, from == hour ? 1 : 0, desk.could(0, 1, from));
            }
            due("with person 1 alone", 2, desk.first(0));
        }
    }

    private static void firstOfNoneAndAll() {
        for (int persons = 0; persons <= 16; persons++) {
            RumourDesk desk = new RumourDesk();
            Checks.settle(desk, persons, 0, 9, 0);
            desk.plain(0, 0, 0, 0);
            due("no reports: all " + persons, (1 << persons) - 1, desk.first(0));
            desk.report(0, 23, true);
            due("loud at 23: all " + persons, (1 << persons) - 1, desk.first(0));
            desk.report(5, 0, true);
            due("loud where nobody is", 0, desk.first(0));
            desk.clear();
            desk.report(0, 23, false);
            due("nobody there at the last hour, though they begin then", 0, desk.first(0));
        }
    }

    /** "(24: at none); of like ones the least bits": with none to eight sayings. */
    private static void postsOfNobody() {
        RumourDesk desk = new RumourDesk();
        for (int sayings = 0; sayings <= 8; sayings++) {
            for (int k = 1; k <= 3; k++) {
                due(sayings + " sayings, " + k + " places", (1 << k) - 1, desk.posts(k, 0));
                due("the sum of " + sayings, 24 * sayings, desk.posts(k, 1));
            }
            desk.plain(0, 0, 0, 0);
        }
        for (int place = 0; place <= 5; place++) {
            RumourDesk one = new RumourDesk();
            Checks.settle(one, 1, place, 9, 0);
            one.plain(0, 0, 0, 0);
            one.begin(0, 0);
            int least = 1 << place | (place == 0 ? 2 : 1);
            due("one place", 1 << place, one.posts(1, 0));
            due("that and the least other", least, one.posts(2, 0));
            due("that and the two least others", 1 << place | (place == 0 ? 6 : place == 1 ? 5 : 3), one.posts(3, 0));
            due("at once", 0, one.posts(3, 1));
        }
    }

    /** At what hour from NOW someone loud of a saying is at a place first, as the busy scene goes on. */
    private static int[][] soonestAsItGoes() {
        int[][] soonest = new int[Scene.BUSY.sayings][6];
        for (int[] row : soonest) {
            Arrays.fill(row, 24);
        }
        for (int t = 23; t >= 0; t--) {
            for (int s = 0; s < soonest.length; s++) {
                RumourDesk desk = Scene.BUSY.get();
                if (t > 0) {
                    desk.hours(t);
                }
                for (int p = 0; p < Scene.BUSY.persons; p++) {
                    // All weights are 5 there.
                    if (desk.knows(p, s, 0) == 1 && desk.set(p, 3, 0) >= 2) {
                        soonest[s][desk.where(p, 60 + t)] = t;
                    }
                }
            }
        }
        return soonest;
    }

    private static void postsByTrying() {
        int[][] soonest = soonestAsItGoes();
        for (int k = 1; k <= 3; k++) {
            int best = 0;
            int least = Integer.MAX_VALUE;
            for (int set = 0; set < 64; set++) {
                int sum = 0;
                for (int[] row : soonest) {
                    int first = 24;
                    for (int place = 0; place < 6; place++) {
                        first = (set >> place & 1) == 1 ? Math.min(first, row[place]) : first;
                    }
                    sum += first;
                }
                if (Integer.bitCount(set) == k && sum < least) {
                    least = sum;
                    best = set;
                }
            }
            due("posts of " + k, best, Scene.BUSY.get().posts(k, 0));
            due("the sum of " + k, least, Scene.BUSY.get().posts(k, 1));
        }
    }

    /** "hours from NOW (0 .. 23)": who hears it at the bar is loud at home at 22, 23 hours from 23 on. */
    private static void postsUpToTheLastHour() {
        int[][] sums = {{22, 24}, {23, 23}};
        for (int[] each : sums) {
            RumourDesk desk = new RumourDesk();
            desk.person(0, 0, 2, 9, 0);
            desk.person(5, 5, 2, 9, 0);
            desk.plain(0, 0, 0, 0);
            desk.plain(0, 0, 0, 0);
            desk.hours(each[0]);
            desk.begin(0, 0);
            desk.begin(1, 1);
            due("the first home, from " + each[0], 1, desk.posts(1, 0));
            due("hours to it", each[1], desk.posts(1, 1));
        }
    }

    /** Promise 33: "the first PERSON whose it is not then", for no hours and up to 48. */
    private static void checkByTrying() {
        int persons = Scene.BUSY.persons;
        for (int h : new int[] {0, 1, 24, 47, 48}) {
            for (int s = 0; s < Scene.BUSY.sayings; s++) {
                RumourDesk later = Scene.BUSY.get();
                if (h > 0) {
                    later.hours(h);
                }
                for (int lane = 1; lane <= 2; lane++) {
                    RumourDesk desk = Scene.BUSY.get();
                    int from = s % 2 * (20 - persons);
                    for (int p = 0; p < persons; p++) {
                        desk.item(lane, lane, from + p, later.knows(p, s, 0));
                    }
                    due("all as told", Edges.NONE, desk.check(s, h, lane, lane, from));
                    for (int p = persons - 1; p >= 0; p--) {
                        desk.item(lane, lane, from + p, p % 2 == 0 ? 4 : -1);
                        due("the first that is not", p, desk.check(s, h, lane, lane, from));
                    }
                }
            }
        }
    }

    /** A row for nobody, for one, for all sixteen that is just long enough. */
    private static void checkOfNoneAndAll() {
        for (int persons = 0; persons <= 16; persons++) {
            RumourDesk desk = new RumourDesk();
            Checks.settle(desk, persons, 0, 0, 0);
            desk.plain(0, 0, 0, 0);
            for (int n = 0; n <= 32; n++) {
                desk.sheet(0, 1, n);
                int last = n - persons;
                if (last >= 0) {
                    due(persons + " of " + n, Edges.NONE, desk.check(0, 0, 0, 1, last));
                }
                due(persons + " behind " + n, Edges.INDEX, desk.check(0, 0, 0, 1, Math.max(0, last + 1)));
                due(persons + " ahead of " + n, Edges.INDEX, desk.check(0, 0, 0, 1, -1));
            }
        }
    }
}
