/** Promises 34 to 38. */
public final class SheetsTest {
    private static final int BAD = -1, NULL = -11, CAST = -12, INDEX = -13, SIZE = -14;
    private static final Checks CHECKS = new Checks();

    public static void main(String[] args) {
        sheet();
        drop();
        item();
        itemsByLanes();
        copy();
        copyOverItself();
        copyWrongly();
        reads();
        readsWrongly();
        CHECKS.end();
    }

    private static void due(String call, long want, long got) {
        CHECKS.due(call, want, got);
    }

    /** Whether a row of bytes or ints is as told: one person's state is held against each item. */
    private static void row(RumourDesk desk, int sheet, int lane, int... states) {
        for (int i = 0; i < states.length; i++) {
            due("item " + i + " of sheet " + sheet, states[i] == 0 ? -4 : 0, desk.check(0, 0, sheet, lane, i));
        }
    }

    private static RumourDesk withOneWhoNeverHeard() {
        RumourDesk desk = new RumourDesk();
        desk.person(0, 0, 0, 0, 0);
        desk.plain(0, 0, 0, 0);
        return desk;
    }

    private static void sheet() {
        RumourDesk desk = withOneWhoNeverHeard();
        for (int lane = 0; lane <= 2; lane++) {
            due("none", 0, desk.sheet(0, lane, 0));
            due("all", 32, desk.sheet(0, lane, 32));
            due("too many", BAD, desk.sheet(0, lane, 33));
            due("below 0", SIZE, desk.sheet(0, lane, -1));
            due("the least", SIZE, desk.sheet(0, lane, Integer.MIN_VALUE));
            due("the row stays", 1, desk.item(0, lane, 31, 1));
        }
        due("sheet 4", BAD, desk.sheet(4, 0, 1));
        due("sheet -1", BAD, desk.sheet(-1, 0, 1));
        due("lane 3", BAD, desk.sheet(0, 3, 1));
        due("lane -1", BAD, desk.sheet(0, -1, 1));
        due("BAD is ahead of SIZE", BAD, desk.sheet(0, 3, -1));
        desk.sheet(1, 2, 3);
        for (int i = 0; i < 3; i++) {
            desk.item(1, 2, i, 9);
        }
        desk.sheet(1, 2, 3);
        row(desk, 1, 2, 0, 0, 0);
        due("the other sheets hold nothing", NULL, desk.drop(2));
    }

    private static void drop() {
        RumourDesk desk = new RumourDesk();
        due("nothing yet", NULL, desk.drop(3));
        desk.sheet(3, 0, 7);
        due("drop", 7, desk.drop(3));
        due("nothing more", NULL, desk.drop(3));
        due("no item then", NULL, desk.item(3, 0, 0, 0));
        desk.sheet(3, 1, 0);
        due("a row without items", 0, desk.drop(3));
        due("sheet 4", BAD, desk.drop(4));
        due("sheet -1", BAD, desk.drop(-1));
    }

    private static void item() {
        RumourDesk desk = new RumourDesk();
        due("a missing sheet", NULL, desk.item(0, 0, 0, 0));
        desk.sheet(0, 1, 4);
        due("item 0", 1, desk.item(0, 1, 0, 5));
        due("item 3", 1, desk.item(0, 1, 3, 5));
        due("item 4", INDEX, desk.item(0, 1, 4, 5));
        due("item -1", INDEX, desk.item(0, 1, -1, 5));
        due("the last there is", INDEX, desk.item(0, 1, Integer.MAX_VALUE, 5));
        due("the least there is", INDEX, desk.item(0, 1, Integer.MIN_VALUE, 5));
        due("another lane", CAST, desk.item(0, 2, 0, 5));
        due("CAST is ahead of INDEX", CAST, desk.item(0, 0, 4, 5));
        due("lane 3", BAD, desk.item(0, 3, 0, 5));
        due("lane -1", BAD, desk.item(0, -1, 0, 5));
        due("sheet 4", BAD, desk.item(4, 1, 0, 5));
        due("BAD is ahead of NULL", BAD, desk.item(1, 3, 0, 5));
        desk.sheet(0, 1, 0);
        due("a row without items", INDEX, desk.item(0, 1, 0, 5));
    }

    private static void itemsByLanes() {
        RumourDesk desk = withOneWhoNeverHeard();
        desk.sheet(1, 1, 4);
        desk.sheet(2, 2, 4);
        int[] values = {256, 255, 128, 512};
        for (int i = 0; i < 4; i++) {
            desk.item(1, 1, i, values[i]);
            desk.item(2, 2, i, values[i]);
        }
        row(desk, 1, 1, 0, 1, 1, 0);
        row(desk, 2, 2, 1, 1, 1, 1);
        int[] truths = {1, 256, -1, 0, Integer.MIN_VALUE};
        for (int v : truths) {
            desk.sheet(0, 0, 1);
            desk.item(0, 0, 0, v);
            due("whether " + v + " is not 0", v == 0 ? 0 : 1, desk.reads(0, 0));
        }
    }

    private static void copy() {
        RumourDesk desk = withOneWhoNeverHeard();
        desk.sheet(0, 2, 4);
        desk.sheet(1, 2, 5);
        for (int i = 0; i < 4; i++) {
            desk.item(0, 2, i, 1);
        }
        due("copy", 2, desk.copy(0, 1, 1, 3, 2));
        row(desk, 1, 2, 0, 0, 0, 1, 1);
        due("none", 0, desk.copy(0, 4, 1, 5, 0));
        due("all", 4, desk.copy(0, 0, 1, 0, 4));
        row(desk, 1, 2, 1, 1, 1, 1, 1);
        desk.item(1, 2, 0, 0);
        due("the source stays by itself", 1, desk.copy(1, 0, 0, 0, 1));
        row(desk, 0, 2, 0, 1, 1, 1);
    }

    private static void copyOverItself() {
        RumourDesk desk = withOneWhoNeverHeard();
        desk.sheet(0, 1, 6);
        desk.item(0, 1, 0, 1);
        due("onward", 4, desk.copy(0, 0, 0, 1, 4));
        row(desk, 0, 1, 1, 1, 0, 0, 0, 0);
        due("backward", 5, desk.copy(0, 1, 0, 0, 5));
        row(desk, 0, 1, 1, 0, 0, 0, 0, 0);
        due("in place", 6, desk.copy(0, 0, 0, 0, 6));
        row(desk, 0, 1, 1, 0, 0, 0, 0, 0);
    }

    private static void copyWrongly() {
        RumourDesk desk = new RumourDesk();
        desk.sheet(0, 1, 4);
        desk.sheet(1, 1, 2);
        desk.sheet(2, 2, 4);
        due("from 4", BAD, desk.copy(4, 0, 0, 0, 0));
        due("to 4", BAD, desk.copy(0, 0, 4, 0, 0));
        due("from -1", BAD, desk.copy(-1, 0, 0, 0, 0));
        due("to -1", BAD, desk.copy(0, 0, -1, 0, 0));
        due("BAD is ahead of NULL", BAD, desk.copy(3, 0, 4, 0, 0));
        due("from a missing one", NULL, desk.copy(3, 0, 0, 0, 1));
        due("to a missing one", NULL, desk.copy(0, 0, 3, 0, 1));
        due("NULL is ahead of INDEX", NULL, desk.copy(3, 0, 3, 0, 99));
        due("unlike lanes", CAST, desk.copy(0, 0, 2, 0, 1));
        due("unlike lanes, none", CAST, desk.copy(0, 0, 2, 0, 0));
        due("CAST is ahead of INDEX", CAST, desk.copy(0, 0, 2, 0, 5));
        int max = Integer.MAX_VALUE;
        int min = Integer.MIN_VALUE;
        int[][] wrong = {{0, 0, 3}, {-1, 0, 1}, {0, -1, 1}, {3, 0, 2}, {0, 1, 2}, {0, 0, -1}, {5, 0, 0},
            {0, 3, 0}, {-1, 0, 0}, {0, -1, 0}, {max, 0, 1}, {0, max, 1}, {1, 1, max}, {max, max, max},
            {min, 0, 1}, {0, min, min}, {0, 0, min}, {max, 0, min}};
        for (int[] w : wrong) {
            due("copy " + w[0] + " " + w[1] + " " + w[2], INDEX, desk.copy(0, w[0], 1, w[1], w[2]));
        }
    }

    private static void reads() {
        RumourDesk desk = new RumourDesk();
        Checks.settle(desk, 3, 0, 0, 0);
        desk.set(0, 2, 1);
        desk.sheet(0, 0, 6);
        desk.item(0, 0, 2, 1);
        desk.item(0, 0, 3, 1);
        due("from 1 on", 2, desk.reads(0, 1));
        int[] want = {0, 1, 1};
        for (int p = 0; p < 3; p++) {
            due("person " + p, want[p], desk.set(p, 2, want[p]));
        }
        due("from 3 on", 1, desk.reads(0, 3));
        due("person 0 does", 1, desk.set(0, 2, 1));
        due("person 1 does not", 0, desk.set(1, 2, 0));
        desk.sheet(0, 0, 3);
        due("nobody", 0, desk.reads(0, 0));
    }

    private static void readsWrongly() {
        RumourDesk desk = new RumourDesk();
        due("a missing sheet", NULL, desk.reads(0, 0));
        desk.sheet(0, 0, 3);
        readsOfNobody(desk);
        Checks.settle(desk, 2, 0, 0, 0);
        desk.item(0, 0, 2, 1);
        due("item 2", INDEX, desk.reads(0, 2));
        due("nothing has changed", 0, desk.set(0, 2, 0));
        due("item -1", INDEX, desk.reads(0, -1));
        due("the last there is", INDEX, desk.reads(0, Integer.MAX_VALUE));
        desk.sheet(1, 1, 3);
        due("another lane", CAST, desk.reads(1, 0));
        due("CAST is ahead of INDEX", CAST, desk.reads(1, 9));
        due("sheet 4", BAD, desk.reads(4, 0));
        due("sheet -1", BAD, desk.reads(-1, 0));
    }

    /** Sheet 0 has three booleans, and nobody is there: the row must still begin in it. */
    private static void readsOfNobody(RumourDesk desk) {
        for (int i = 0; i <= 3; i++) {
            due("nobody, from item " + i, 0, desk.reads(0, i));
        }
        int[] behind = {4, 9, 32, Integer.MAX_VALUE, -1, Integer.MIN_VALUE};
        for (int i : behind) {
            due("nobody, from item " + i, INDEX, desk.reads(0, i));
        }
        desk.sheet(2, 1, 3);
        due("nobody, another lane", CAST, desk.reads(2, 9));
        desk.sheet(2, 0, 0);
        due("nobody and no items", 0, desk.reads(2, 0));
        due("nobody, behind no items", INDEX, desk.reads(2, 1));
    }
}
