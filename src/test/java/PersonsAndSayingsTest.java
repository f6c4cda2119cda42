/** Promises 1 to 13. */
public final class PersonsAndSayingsTest {
    private static final int BAD = -1, NOT = -2, FULL = -3, NONE = -4, CAST = -12;
    private static final Checks CHECKS = new Checks();

    public static void main(String[] args) {
        newObject();
        person();
        set();
        where();
        plain();
        changed();
        planted();
        real();
        told();
        weight();
        begin();
        knows();
        count();
        CHECKS.end();
    }

    private static void due(String call, long want, long got) {
        CHECKS.due(call, want, got);
    }

    private static void newObject() {
        RumourDesk desk = new RumourDesk();
        for (int what = 0; what <= 4; what++) {
            due("new: count " + what, 0, desk.count(what));
        }
        due("new: no person", BAD, desk.where(0, 0));
        due("new: no saying", BAD, desk.told(0, 0));
        due("new: a sheet holds nothing", -11, desk.drop(0));
        due("new: no harm", 0, desk.foretold(96));
        due("new: posts", 7, desk.posts(3, 0));
        due("new: sum of posts", 0, desk.posts(3, 1));
        for (int what = 0; what <= 9; what++) {
            due("new: weight " + what, 5, desk.weight(what, 5));
        }
        desk.person(0, 0, 0, 0, 0);
        due("another object is new", 0, new RumourDesk().count(0));
    }

    private static void person() {
        RumourDesk desk = new RumourDesk();
        due("person", 0, desk.person(0, 5, 3, 0, 0));
        due("person at the tops", 1, desk.person(5, 5, 5, 9, 19));
        int[][] wrong = {{-1, 0, 0, 0, 0}, {6, 0, 0, 0, 0}, {0, -1, 0, 0, 0}, {0, 6, 0, 0, 0},
            {0, 0, -1, 0, 0}, {0, 0, 6, 0, 0}, {0, 0, 0, -1, 0}, {0, 0, 0, 10, 0},
            {0, 0, 0, 0, -1}, {0, 0, 0, 0, 20}};
        for (int[] w : wrong) {
            due("person, wrong", BAD, desk.person(w[0], w[1], w[2], w[3], w[4]));
        }
        due("none of the wrong ones came", 2, desk.count(0));
        for (int p = 2; p < 16; p++) {
            due("person " + p, p, desk.person(1, 1, 1, 1, 1));
        }
        due("person 17", FULL, desk.person(1, 1, 1, 1, 1));
        due("BAD is ahead of FULL", BAD, desk.person(6, 1, 1, 1, 1));
        due("trust at first", 50, desk.set(15, 0, 50));
        due("habit at first", 0, desk.set(15, 1, 0));
        due("reads at first", 0, desk.set(15, 2, 0));
        due("fear as told", 9, desk.set(1, 3, 9));
        due("doubt as told", 19, desk.set(1, 4, 19));
    }

    private static void set() {
        RumourDesk desk = new RumourDesk();
        desk.person(0, 0, 0, 3, 7);
        desk.person(0, 0, 0, 4, 8);
        int[] tops = {99, 4, 1, 9, 19};
        int[] firsts = {50, 0, 0, 3, 7};
        for (int what = 0; what < 5; what++) {
            due("set " + what + " to its top", firsts[what], desk.set(0, what, tops[what]));
            due("set above", BAD, desk.set(0, what, tops[what] + 1));
            due("set below", BAD, desk.set(0, what, -1));
            due("set to 0", tops[what], desk.set(0, what, 0));
            due("set again", 0, desk.set(0, what, 0));
        }
        due("the other one stays", 4, desk.set(1, 3, 4));
        due("set -1", BAD, desk.set(0, -1, 0));
        due("set 5", BAD, desk.set(0, 5, 0));
        due("set of nobody", BAD, desk.set(2, 0, 0));
        due("set of person -1", BAD, desk.set(-1, 0, 0));
    }

    private static void where() {
        RumourDesk desk = new RumourDesk();
        desk.person(1, 2, 3, 0, 0);
        for (int hour = 0; hour < 72; hour++) {
            int ofDay = hour % 24;
            int place = ofDay < 8 ? 1 : ofDay < 18 ? 2 : ofDay < 22 ? 3 : 1;
            due("where at " + hour, place, desk.where(0, hour));
        }
        due("where at 9999", 2, desk.where(0, 9999));
        due("where at 10000", BAD, desk.where(0, 10000));
        due("where at -1", BAD, desk.where(0, -1));
        due("where of nobody", BAD, desk.where(1, 0));
        due("where of person -1", BAD, desk.where(-1, 0));
    }

    private static void plain() {
        RumourDesk desk = new RumourDesk();
        due("plain at the least", 0, desk.plain(0, 0, 0, 0));
        due("plain at the most", 1, desk.plain(9, 9, 9, 9));
        due("plain who", BAD, desk.plain(10, 0, 0, 0));
        due("plain what", BAD, desk.plain(0, -1, 0, 0));
        due("plain many", BAD, desk.plain(0, 0, 10, 0));
        due("plain where", BAD, desk.plain(0, 0, 0, 10));
        for (int s = 2; s < 8; s++) {
            due("plain " + s, s, desk.plain(1, 2, 3, 4));
        }
        due("plain, full", FULL, desk.plain(1, 2, 3, 4));
        due("plain, BAD is ahead", BAD, desk.plain(1, 2, 3, -1));
        due("its who", 9, desk.told(1, 1));
    }

    private static void changed() {
        RumourDesk desk = new RumourDesk();
        due("changed of nothing", BAD, desk.changed(0, 1, 1));
        desk.plain(1, 2, 3, 4);
        for (int part = 1; part <= 4; part++) {
            due("changed, as it is", NOT, desk.changed(0, part, part));
            due("changed " + part, part, desk.changed(0, part, 9));
            for (int each = 1; each <= 4; each++) {
                due("part " + each, each == part ? 9 : each, desk.told(part, each));
            }
        }
        due("changed of a changed one", 5, desk.changed(1, 4, 0));
        due("of which", 1, desk.told(5, 5));
        due("its parts stay changed", 9, desk.told(5, 1));
        due("part 0", BAD, desk.changed(0, 0, 0));
        due("part 5", BAD, desk.changed(0, 5, 0));
        due("v -1", BAD, desk.changed(0, 1, -1));
        due("v 10", BAD, desk.changed(0, 1, 10));
        due("saying -1", BAD, desk.changed(-1, 1, 1));
        due("saying 6", BAD, desk.changed(6, 1, 1));
        desk.changed(0, 1, 5);
        desk.changed(0, 1, 6);
        due("changed, full", FULL, desk.changed(0, 1, 7));
        due("changed, NOT is ahead of FULL", NOT, desk.changed(0, 1, 1));
    }

    private static void planted() {
        RumourDesk desk = new RumourDesk();
        due("planted of nothing", BAD, desk.planted(0, 0));
        desk.real(4, 3, 2, 1, true);
        due("planted", 1, desk.planted(0, 9999));
        due("its hour", 9999, desk.told(1, 6));
        due("of which", 0, desk.told(1, 5));
        due("its parts", 4, desk.told(1, 1));
        due("hour 10000", BAD, desk.planted(0, 10000));
        due("hour -1", BAD, desk.planted(0, -1));
        due("saying 2", BAD, desk.planted(2, 0));
        for (int s = 2; s < 8; s++) {
            due("planted " + s, s, desk.planted(s - 1, 0));
        }
        due("planted, full", FULL, desk.planted(0, 0));
        due("planted, BAD is ahead", BAD, desk.planted(8, 0));
    }

    private static void real() {
        RumourDesk desk = new RumourDesk();
        due("real", 0, desk.real(9, 8, 7, 6, true));
        due("real, not to be told", 1, desk.real(0, 0, 0, 0, false));
        due("may", 1, desk.told(0, 7));
        due("may not", 0, desk.told(1, 7));
        due("real who", BAD, desk.real(-1, 0, 0, 0, true));
        due("real what", BAD, desk.real(0, 10, 0, 0, true));
        due("real many", BAD, desk.real(0, 0, -1, 0, true));
        due("real where", BAD, desk.real(0, 0, 0, 10, true));
        for (int s = 2; s < 8; s++) {
            due("real " + s, s, desk.real(1, 1, 1, 1, false));
        }
        due("real, full", FULL, desk.real(1, 1, 1, 1, false));
        due("real, BAD is ahead", BAD, desk.real(10, 1, 1, 1, false));
    }

    private static void told() {
        RumourDesk desk = new RumourDesk();
        desk.plain(1, 2, 3, 4);
        desk.changed(0, 2, 7);
        desk.planted(1, 55);
        desk.real(5, 6, 7, 8, true);
        int[][] want = {
            {0, 1, 2, 3, 4, CAST, CAST, CAST, 0},
            {1, 1, 7, 3, 4, 0, CAST, CAST, 0},
            {2, 1, 7, 3, 4, 1, 55, CAST, 0},
            {3, 5, 6, 7, 8, CAST, CAST, 1, 0}};
        for (int s = 0; s < 4; s++) {
            for (int what = 0; what <= 8; what++) {
                due("told(" + s + ", " + what + ")", want[s][what], desk.told(s, what));
            }
            due("told 9", BAD, desk.told(s, 9));
            due("told -1", BAD, desk.told(s, -1));
        }
        due("told of nothing", BAD, desk.told(4, 5));
        due("told of -1", BAD, desk.told(-1, 0));
        desk.deny(0, 0);
        desk.deny(0, 2);
        due("denials of a plain one", 2, desk.told(0, 8));
        due("denials of another", 0, desk.told(1, 8));
        desk.wording(0, 3);
        desk.plan(15, 3);
        due("denials that were only thought of", 2, desk.told(0, 8));
    }

    private static void weight() {
        RumourDesk desk = new RumourDesk();
        due("weight", 5, desk.weight(0, 9));
        due("weight again", 9, desk.weight(0, 0));
        due("weight 9", 5, desk.weight(9, 0));
        due("weight of 10", BAD, desk.weight(10, 0));
        due("weight of -1", BAD, desk.weight(-1, 0));
        due("weight 10", BAD, desk.weight(0, 10));
        due("weight -1", BAD, desk.weight(0, -1));
        due("weight stays", 0, desk.weight(0, 1));
    }

    private static void begin() {
        RumourDesk desk = new RumourDesk();
        desk.person(0, 0, 0, 1, 19);
        desk.plain(1, 2, 3, 4);
        desk.planted(0, 2);
        due("begin", 0, desk.begin(0, 0));
        due("begin again", 1, desk.begin(0, 0));
        due("begin ahead of the hour", NOT, desk.begin(0, 1));
        due("it was not begun", 0, desk.knows(0, 1, 0));
        desk.hours(1);
        due("begin an hour ahead", NOT, desk.begin(0, 1));
        due("begin again later", 1, desk.begin(0, 0));
        due("believed from then on", 1, desk.knows(0, 0, 1));
        desk.hours(1);
        due("begin at the hour", 0, desk.begin(0, 1));
        due("begin of nobody", BAD, desk.begin(1, 0));
        due("begin of nothing", BAD, desk.begin(0, 2));
        due("begin -1", BAD, desk.begin(-1, 0));
        due("begin of -1", BAD, desk.begin(0, -1));
        Checks.pass(desk, 48);
        due("forgotten", 3, desk.knows(0, 0, 0));
        due("begin after that", 3, desk.begin(0, 0));
        due("then it is believed", 1, desk.knows(0, 0, 0));
        due("a changed one of a planted one", 2, desk.changed(1, 1, 0));
        due("begins at any hour", 0, desk.begin(0, 2));
    }

    private static void knows() {
        RumourDesk desk = new RumourDesk();
        Checks.settle(desk, 3, 0, 5, 5);
        desk.set(1, 1, 4);
        desk.plain(1, 2, 3, 9);
        desk.hours(2);
        desk.begin(1, 0);
        desk.hours(3);
        int[][] want = {{1, 2, 1230, 1, 4}, {1, 2, 1239, 17, 4}, {1, 2, 1230, 1, 4}};
        for (int p = 0; p < 3; p++) {
            for (int what = 0; what < 5; what++) {
                due("knows(" + p + ", 0, " + what + ")", want[p][what], desk.knows(p, 0, what));
            }
        }
        desk.plain(0, 0, 0, 0);
        due("never: the state", 0, desk.knows(0, 1, 0));
        for (int what = 1; what <= 4; what++) {
            due("never: " + what, NONE, desk.knows(0, 1, what));
        }
        due("knows 5", BAD, desk.knows(0, 0, 5));
        due("knows -1", BAD, desk.knows(0, 0, -1));
        due("knows, BAD is ahead of NONE", BAD, desk.knows(0, 1, 5));
        due("knows of nobody", BAD, desk.knows(3, 0, 0));
        due("knows of nothing", BAD, desk.knows(0, 2, 0));
    }

    private static void count() {
        RumourDesk desk = new RumourDesk();
        Checks.settle(desk, 5, 0, 0, 0);
        desk.plain(0, 0, 0, 0);
        desk.plain(0, 0, 0, 0);
        Checks.guide(desk, "w=1:d;w=2:h;w=3:s");
        desk.report(0, 0, true);
        desk.hours(7);
        int[] want = {5, 2, 3, 1, 7};
        for (int what = 0; what < 5; what++) {
            due("count " + what, want[what], desk.count(what));
        }
        due("count 5", BAD, desk.count(5));
        due("count -1", BAD, desk.count(-1));
    }
}
