/** Promises 25 to 33. */
public final class KinAndReportsTest {
    private static final int BAD = -1, FULL = -3, NONE = -4, NULL = -11, CAST = -12, INDEX = -13;
    private static final Checks CHECKS = new Checks();

    public static void main(String[] args) {
        versions();
        square();
        anchorIsTheFirst();
        farApart();
        twelveAtMost();
        kinWrongly();
        report();
        clear();
        couldByHours();
        couldBySpreading();
        couldWhateverIsKnown();
        couldWrongly();
        first();
        postsOfTwo();
        postsWithinADay();
        postsWrongly();
        check();
        checkLater();
        checkWrongly();
        CHECKS.end();
    }

    private static void due(String call, long want, long got) {
        CHECKS.due(call, want, got);
    }

    private static void versions() {
        RumourDesk desk = new RumourDesk();
        Checks.settle(desk, 3, 0, 9, 0);
        desk.plain(1, 2, 3, 4);
        due("nobody has heard", 0, desk.versions(0));
        due("no version 0", BAD, desk.version(0, 0, 0));
        due("no version 0 that is joined", BAD, desk.version(0, 0, 1));
        due("no kin", 0, desk.kin(0));
        desk.set(0, 1, 1);
        desk.begin(0, 0);
        due("one", 1, desk.versions(0));
        desk.hours(1);
        due("two", 2, desk.versions(0));
        due("the first", 1234, desk.version(0, 0, 0));
        due("the second", 2234, desk.version(0, 1, 0));
        due("the first is joined to none", NONE, desk.version(0, 0, 1));
        due("the second is joined", 0, desk.version(0, 1, 1));
        due("kin", 1, desk.kin(0));
        for (int p = 0; p < 3; p++) {
            desk.set(p, 3, 0);
        }
        Checks.pass(desk, 60);
        due("all forgot", 3, desk.reach(0, 3));
        due("those who forgot count, too", 2, desk.versions(0));
        desk.plain(0, 0, 0, 0);
        due("of another saying", 0, desk.versions(1));
    }

    private static void tree(RumourDesk desk, int[] versions, int[] joined, int sum) {
        due("how many versions", versions.length, desk.versions(0));
        for (int i = 0; i < versions.length; i++) {
            due("version " + i, versions[i], desk.version(0, i, 0));
            due("version " + i + " is joined to", joined[i], desk.version(0, i, 1));
        }
        due("the sum", sum, desk.kin(0));
    }

    private static void square() {
        RumourDesk desk = Checks.withOneWhoKnows();
        int b = Checks.teach(desk, 0, 1);
        Checks.teach(desk, b, 4);
        Checks.teach(desk, 0, 4);
        tree(desk, new int[] {0, 1, 1000, 1001}, new int[] {NONE, 0, 0, 1}, 3);
    }

    /** 0000, 0011, 0100, 0121: the third comes in ahead of the second; the last is as near to both. */
    private static void anchorIsTheFirst() {
        RumourDesk desk = Checks.withOneWhoKnows();
        int b = Checks.teach(desk, 0, 3, 4);
        due("the second", 11, desk.knows(b, 0, 2));
        Checks.teach(desk, 0, 2);
        Checks.teach(desk, b, 2, 3);
        tree(desk, new int[] {0, 11, 100, 121}, new int[] {NONE, 0, 0, 1}, 5);
    }

    private static void farApart() {
        RumourDesk three = Checks.withOneWhoKnows();
        Checks.teach(three, 0, 4, 3, 2);
        tree(three, new int[] {0, 111}, new int[] {NONE, 0}, 3);
        RumourDesk four = Checks.withOneWhoKnows();
        Checks.teach(four, 0, 4, 3, 2, 1);
        tree(four, new int[] {0, 1111}, new int[] {NONE, 0}, 4);
    }

    private static void twelveAtMost() {
        RumourDesk desk = Checks.withOneWhoKnows();
        int last = 0;
        for (int i = 1; i <= 9; i++) {
            last = Checks.teach(desk, last, 4);
        }
        due("ten", 10, desk.versions(0));
        due("nine changes", 9, desk.kin(0));
        for (int i = 1; i <= 9; i++) {
            due("all are joined to the first", 0, desk.version(0, i, 1));
        }
        last = Checks.teach(desk, last, 3);
        due("its version", 19, desk.knows(last, 0, 2));
        due("eleven", 11, desk.versions(0));
        due("it is joined to the like one", 9, desk.version(0, 10, 1));
        for (int i = 0; i < 3; i++) {
            last = Checks.teach(desk, last, 4);
        }
        due("the last version", 12, desk.knows(last, 0, 2));
        due("fourteen, of which twelve", 12, desk.versions(0));
        due("version 10", 10, desk.version(0, 10, 0));
        due("version 11", 11, desk.version(0, 11, 0));
        due("version 12", BAD, desk.version(0, 12, 0));
        due("version 11 is joined to", 1, desk.version(0, 11, 1));
        due("the sum over twelve", 11, desk.kin(0));
    }

    private static void kinWrongly() {
        RumourDesk desk = Checks.withOneWhoKnows();
        due("versions of nothing", BAD, desk.versions(1));
        due("versions of -1", BAD, desk.versions(-1));
        due("kin of nothing", BAD, desk.kin(1));
        due("kin of -1", BAD, desk.kin(-1));
        due("version of nothing", BAD, desk.version(1, 0, 0));
        due("version -1", BAD, desk.version(0, -1, 0));
        due("version 1", BAD, desk.version(0, 1, 0));
        due("what 2", BAD, desk.version(0, 0, 2));
        due("what -1", BAD, desk.version(0, 0, -1));
        due("kin of one", 0, desk.kin(0));
    }

    private static void report() {
        RumourDesk desk = new RumourDesk();
        due("place -1", BAD, desk.report(-1, 0, true));
        due("place 6", BAD, desk.report(6, 0, true));
        due("hour -1", BAD, desk.report(0, -1, true));
        due("hour 24", BAD, desk.report(0, 24, true));
        for (int i = 0; i < 12; i++) {
            due("report " + i, i, desk.report(5, 23, i % 2 == 0));
        }
        due("report 12", FULL, desk.report(0, 0, true));
        due("BAD is ahead of FULL", BAD, desk.report(6, 0, true));
        due("twelve", 12, desk.count(3));
    }

    private static void clear() {
        RumourDesk desk = Checks.withOneWhoKnows();
        due("clear of none", 0, desk.clear());
        desk.report(0, 0, true);
        desk.report(0, 23, true);
        desk.report(0, 23, false);
        due("nobody can be", 0, desk.first(0));
        due("clear", 3, desk.clear());
        due("none", 0, desk.count(3));
        due("everybody can be", 1, desk.first(0));
        due("the next is the first", 0, desk.report(0, 0, false));
    }

    private static void couldByHours() {
        RumourDesk desk = new RumourDesk();
        desk.person(1, 2, 3, 2, 0);
        desk.person(1, 2, 3, 1, 0);
        desk.plain(1, 1, 1, 1);
        desk.report(2, 8, true);
        for (int hour = 0; hour <= 23; hour++) {
            due("loud at work at 8, from " + hour, hour <= 8 ? 1 : 0, desk.could(0, 0, hour));
            due("one who is not loud, from " + hour, 0, desk.could(0, 1, hour));
        }
        desk.clear();
        desk.report(3, 21, true);
        desk.report(1, 7, false);
        for (int hour = 0; hour <= 23; hour++) {
            due("the bar at 21, nobody home at 7, from " + hour, hour >= 8 && hour <= 21 ? 1 : 0,
                    desk.could(0, 0, hour));
        }
        desk.report(1, 23, false);
        due("nobody home at 23", 0, desk.could(0, 0, 12));
        desk.clear();
        desk.report(1, 23, true);
        due("at the last hour", 1, desk.could(0, 0, 23));
        desk.report(0, 22, true);
        due("nobody ahead of it", 0, desk.could(0, 0, 23));
    }

    private static void couldBySpreading() {
        RumourDesk desk = new RumourDesk();
        desk.person(0, 1, 2, 9, 0);
        desk.person(3, 1, 4, 9, 0);
        desk.person(5, 5, 4, 9, 19);
        desk.person(0, 0, 0, 9, 11);
        desk.plain(1, 8, 1, 1);
        desk.report(4, 18, true);
        due("by the one at work, from 16", 1, desk.could(0, 0, 16));
        due("from 17, heard in that hour", 1, desk.could(0, 0, 17));
        due("from 18", 0, desk.could(0, 0, 18));
        desk.report(5, 22, false);
        due("who doubts is not loud", 1, desk.could(0, 0, 17));
        desk.report(1, 17, true);
        due("the teller is loud at once", 1, desk.could(0, 0, 17));
        desk.clear();
        desk.report(4, 18, true);
        desk.set(0, 1, 2);
        desk.weight(9, 1);
        due("a light what by a habit", 0, desk.could(0, 0, 10));
        desk.weight(9, 2);
        due("a heavier one", 1, desk.could(0, 0, 10));
    }

    private static void couldWhateverIsKnown() {
        RumourDesk desk = new RumourDesk();
        desk.person(0, 0, 0, 9, 0);
        desk.person(1, 1, 1, 9, 0);
        desk.person(1, 1, 1, 9, 0);
        desk.plain(1, 1, 1, 1);
        desk.planted(0, 20);
        desk.begin(1, 0);
        desk.hours(5);
        desk.report(1, 3, false);
        due("with nobody else having heard", 1, desk.could(0, 0, 2));
        due("the one who has heard", 0, desk.could(0, 1, 2));
        due("a planted one, too", 1, desk.could(1, 0, 2));
        due("it changes nothing", 0, desk.knows(0, 0, 0));
        due("nor those who know", 1, desk.knows(2, 0, 0));
        due("NOW stays", 5, desk.count(4));
    }

    private static void couldWrongly() {
        RumourDesk desk = Checks.withOneWhoKnows();
        due("no such saying", BAD, desk.could(1, 0, 0));
        due("saying -1", BAD, desk.could(-1, 0, 0));
        due("nobody", BAD, desk.could(0, 1, 0));
        due("person -1", BAD, desk.could(0, -1, 0));
        due("hour 24", BAD, desk.could(0, 0, 24));
        due("hour -1", BAD, desk.could(0, 0, -1));
        due("no reports", 1, desk.could(0, 0, 23));
    }

    private static void first() {
        RumourDesk desk = new RumourDesk();
        desk.plain(1, 1, 1, 1);
        due("nobody is there", 0, desk.first(0));
        desk.person(0, 1, 2, 9, 0);
        desk.person(3, 1, 4, 9, 0);
        desk.person(5, 5, 5, 9, 0);
        desk.person(5, 5, 5, 0, 0);
        due("no reports", 15, desk.first(0));
        desk.report(1, 10, true);
        due("at work", 3, desk.first(0));
        desk.report(3, 7, false);
        due("either, from 8 on", 3, desk.first(0));
        desk.report(4, 18, false);
        due("nobody at that bar: neither", 0, desk.first(0));
        desk.clear();
        desk.report(5, 0, true);
        due("at 0", 4, desk.first(0));
        desk.clear();
        desk.report(5, 23, false);
        due("nobody there at the end of the day", 11, desk.first(0));
        desk.report(0, 23, false);
        desk.report(3, 23, false);
        due("nobody at any home then", 8, desk.first(0));
        due("of nothing", BAD, desk.first(1));
        due("of -1", BAD, desk.first(-1));
        RumourDesk full = new RumourDesk();
        Checks.settle(full, 16, 0, 9, 0);
        full.plain(0, 0, 0, 0);
        full.report(0, 23, true);
        due("all sixteen", 0xFFFF, full.first(0));
    }

    private static void postsOfTwo() {
        RumourDesk desk = new RumourDesk();
        desk.person(0, 1, 2, 9, 0);
        desk.person(3, 1, 4, 9, 0);
        desk.plain(0, 0, 0, 0);
        desk.real(0, 0, 0, 0, false);
        due("nobody is loud", 48, desk.posts(1, 1));
        due("the least", 1, desk.posts(1, 0));
        due("the least two", 3, desk.posts(2, 0));
        due("the least three", 7, desk.posts(3, 0));
        desk.begin(0, 0);
        desk.begin(1, 1);
        due("one: at work", 2, desk.posts(1, 0));
        due("at 8 both", 16, desk.posts(1, 1));
        due("two: at home", 9, desk.posts(2, 0));
        due("at once", 0, desk.posts(2, 1));
        due("three: the least with these", 11, desk.posts(3, 0));
        due("at once, too", 0, desk.posts(3, 1));
        due("nothing of it stays", 0, desk.knows(1, 0, 0));
        due("NOW stays", 0, desk.count(4));
    }

    /** Each hears the other's saying at the bar from 18 on, and is loud of it at home from 22 on. */
    private static void postsWithinADay() {
        for (int start = 22; start <= 23; start++) {
            RumourDesk desk = new RumourDesk();
            desk.person(0, 0, 2, 9, 0);
            desk.person(5, 5, 2, 9, 0);
            desk.plain(0, 0, 0, 0);
            desk.plain(0, 0, 0, 0);
            desk.hours(start);
            desk.begin(0, 0);
            desk.set(1, 3, 0);
            desk.begin(1, 1);
            due("one who is not loud", 24, desk.posts(1, 1));
            desk.set(1, 3, 9);
            due("one home, by the least bits", 1, desk.posts(1, 0));
            due("from " + start + " to 22 of the next day", start == 23 ? 23 : 24, desk.posts(1, 1));
            due("both homes", 33, desk.posts(2, 0));
            due("at once", 0, desk.posts(2, 1));
        }
        RumourDesk late = new RumourDesk();
        late.person(0, 1, 2, 9, 0);
        late.plain(0, 0, 0, 0);
        Checks.pass(late, 9999);
        late.begin(0, 0);
        due("behind the last hour: at work", 2, late.posts(1, 0));
        due("at once", 0, late.posts(1, 1));
        late.person(3, 3, 2, 9, 0);
        late.plain(0, 0, 0, 0);
        late.begin(1, 1);
        due("at the bar at 18, three hours on", 6, late.posts(1, 1));
        due("the bar", 4, late.posts(1, 0));
    }

    private static void postsWrongly() {
        RumourDesk desk = new RumourDesk();
        due("k 0", BAD, desk.posts(0, 0));
        due("k 4", BAD, desk.posts(4, 0));
        due("k -1", BAD, desk.posts(-1, 0));
        due("what 2", BAD, desk.posts(1, 2));
        due("what -1", BAD, desk.posts(1, -1));
        due("no sayings", 0, desk.posts(2, 1));
        due("the least", 3, desk.posts(2, 0));
        for (int s = 0; s < 8; s++) {
            desk.plain(0, 0, 0, 0);
        }
        due("eight that nobody tells", 192, desk.posts(1, 1));
        due("the least again", 1, desk.posts(1, 0));
    }

    private static void check() {
        for (int lane = 1; lane <= 2; lane++) {
            RumourDesk desk = new RumourDesk();
            Checks.settle(desk, 2, 0, 9, 0);
            Checks.settle(desk, 1, 1, 9, 0);
            desk.plain(0, 0, 0, 0);
            desk.begin(1, 0);
            desk.sheet(3, lane, 5);
            desk.item(3, lane, 3, 1);
            due("all are as told", NONE, desk.check(0, 0, 3, lane, 2));
            due("the first that is not", 0, desk.check(0, 1, 3, lane, 2));
            desk.item(3, lane, 2, 1);
            due("an hour later", NONE, desk.check(0, 1, 3, lane, 2));
            due("not yet", 0, desk.check(0, 0, 3, lane, 2));
            desk.item(3, lane, 4, 7);
            due("the last", 2, desk.check(0, 1, 3, lane, 2));
            due("from another item on", 0, desk.check(0, 1, 3, lane, 1));
            desk.item(3, lane, 4, 256);
            due("the lowest bits", lane == 1 ? NONE : 2, desk.check(0, 1, 3, lane, 2));
            due("NOW stays", 0, desk.count(4));
            due("nobody hears by it", 0, desk.knows(0, 0, 0));
        }
    }

    private static void checkLater() {
        RumourDesk desk = new RumourDesk();
        Checks.settle(desk, 1, 0, 9, 0);
        desk.plain(0, 0, 0, 0);
        desk.begin(0, 0);
        desk.sheet(0, 2, 1);
        desk.item(0, 2, 0, 1);
        due("48 hours on", NONE, desk.check(0, 48, 0, 2, 0));
        desk.hours(1);
        due("49 hours on: forgot", 0, desk.check(0, 48, 0, 2, 0));
        desk.item(0, 2, 0, 3);
        due("forgot, as told", NONE, desk.check(0, 48, 0, 2, 0));
        Checks.pass(desk, 9998);
        desk.begin(0, 0);
        due("beyond the last hour", 0, desk.check(0, 48, 0, 2, 0));
    }

    private static void checkWrongly() {
        RumourDesk desk = new RumourDesk();
        desk.plain(0, 0, 0, 0);
        due("a missing sheet", NULL, desk.check(0, 0, 0, 1, 0));
        desk.sheet(0, 1, 2);
        checkOfNobody(desk);
        Checks.settle(desk, 2, 0, 0, 0);
        due("saying 1", BAD, desk.check(1, 0, 0, 1, 0));
        due("saying -1", BAD, desk.check(-1, 0, 0, 1, 0));
        due("h -1", BAD, desk.check(0, -1, 0, 1, 0));
        due("h 49", BAD, desk.check(0, 49, 0, 1, 0));
        due("sheet 4", BAD, desk.check(0, 0, 4, 1, 0));
        due("sheet -1", BAD, desk.check(0, 0, -1, 1, 0));
        due("lane 0", BAD, desk.check(0, 0, 0, 0, 0));
        due("lane 3", BAD, desk.check(0, 0, 0, 3, 0));
        due("another lane", CAST, desk.check(0, 0, 0, 2, 0));
        due("CAST is ahead of INDEX", CAST, desk.check(0, 0, 0, 2, 9));
        due("NULL is ahead of INDEX", NULL, desk.check(0, 0, 1, 2, 9));
        due("item -1", INDEX, desk.check(0, 0, 0, 1, -1));
        due("item 1", INDEX, desk.check(0, 0, 0, 1, 1));
        due("the last item there is", INDEX, desk.check(0, 0, 0, 1, Integer.MAX_VALUE));
        due("the least item there is", INDEX, desk.check(0, 0, 0, 1, Integer.MIN_VALUE));
        desk.item(0, 1, 1, 1);
        due("INDEX is ahead of a person", INDEX, desk.check(0, 0, 0, 1, 1));
        due("a person", 1, desk.check(0, 0, 0, 1, 0));
    }

    /** Sheet 0 has two bytes, and nobody is there: the told row must still begin in it. */
    private static void checkOfNobody(RumourDesk desk) {
        for (int i = 0; i <= 2; i++) {
            due("nobody, from item " + i, NONE, desk.check(0, 0, 0, 1, i));
        }
        int[] behind = {3, 9, 32, Integer.MAX_VALUE, -1, Integer.MIN_VALUE};
        for (int i : behind) {
            due("nobody, from item " + i, INDEX, desk.check(0, 48, 0, 1, i));
        }
        due("nobody, another lane", CAST, desk.check(0, 0, 0, 2, 9));
        desk.sheet(3, 2, 0);
        due("nobody and no items", NONE, desk.check(0, 0, 3, 2, 0));
        due("nobody, behind no items", INDEX, desk.check(0, 0, 3, 2, 1));
        due("BAD is ahead of INDEX", BAD, desk.check(0, 49, 3, 2, 1));
    }
}
