/** Edges of sheets and of promises 34 to 38: rows without items and of 32, what is copied over itself. */
public final class EdgesOfSheetsTest {
    private static final Edges EDGES = new Edges();

    public static void main(String[] args) {
        newRowsOfZeros();
        fourSheets();
        dropTellsItems();
        bytesByLowestBits();
        intsAsTheyAre();
        booleansByNotZero();
        everyItem();
        copyAsIfTakenAhead();
        copyAmongSheets();
        copyOfNone();
        readsOfNoneAndAll();
        readsAnew();
        EDGES.end();
    }

    private static void due(String call, long want, long got) {
        EDGES.due(call, want, got);
    }

    /** One person who has never heard saying 0, believes 1, doubts 2, forgot 3: these tell an item's value. */
    private static RumourDesk withAllStates() {
        RumourDesk desk = new RumourDesk();
        desk.person(0, 0, 0, 0, 0);
        desk.set(0, 2, 1);
        for (int s = 0; s <= 3; s++) {
            desk.plain(0, 0, 0, 0);
        }
        desk.begin(0, 3);
        desk.hours(50);
        desk.begin(0, 1);
        desk.begin(0, 2);
        desk.deny(2, 0);
        return desk;
    }

    /** The value of an item of bytes or ints; 4, if it is none of 0 to 3. */
    private static int valueOf(RumourDesk desk, int sheet, int lane, int i) {
        int value = 0;
        while (value < 4 && desk.check(value, 0, sheet, lane, i) != Edges.NONE) {
            value++;
        }
        return value;
    }

    /** "a row of a LANE .., of 0 to 32 items (0 at first)": whatever the sheet held. */
    private static void newRowsOfZeros() {
        for (int lane = 1; lane <= 2; lane++) {
            for (int n = 0; n <= 32; n++) {
                RumourDesk desk = withAllStates();
                desk.sheet(3, 2, 32);
                for (int i = 0; i < 32; i++) {
                    desk.item(3, 2, i, 1);
                }
                due("a new row", n, desk.sheet(3, lane, n));
                for (int i = 0; i < n; i++) {
                    due("item " + i, 0, valueOf(desk, 3, lane, i));
                }
                due("not one more", Edges.INDEX, desk.check(0, 0, 3, lane, n));
                due("as many items", n, desk.drop(3));
            }
        }
        RumourDesk desk = new RumourDesk();
        Checks.settle(desk, 16, 0, 0, 0);
        desk.sheet(0, 1, 32);
        for (int i = 0; i < 32; i++) {
            desk.item(0, 1, i, 1);
        }
        due("a new row of booleans", 32, desk.sheet(0, 0, 32));
        due("none of the first", 0, desk.reads(0, 0));
        due("none of the last", 0, desk.reads(0, 16));
    }

    /** "SHEETS 0 .. 3": each has its own row and lane. */
    private static void fourSheets() {
        RumourDesk desk = withAllStates();
        for (int sheet = 0; sheet <= 3; sheet++) {
            due("sheet " + sheet, sheet + 1, desk.sheet(sheet, 1 + sheet % 2, sheet + 1));
            due("its last item", 1, desk.item(sheet, 1 + sheet % 2, sheet, sheet));
        }
        for (int sheet = 0; sheet <= 3; sheet++) {
            for (int i = 0; i < sheet; i++) {
                due("an item ahead", 0, valueOf(desk, sheet, 1 + sheet % 2, i));
            }
            due("the last item of " + sheet, sheet, valueOf(desk, sheet, 1 + sheet % 2, sheet));
            due("of no other lane", Edges.CAST, desk.item(sheet, 2 - sheet % 2, 0, 0));
        }
        due("one of them goes", 2, desk.drop(1));
        due("the one ahead stays", 1, desk.drop(0));
        due("the one behind, too", 3, desk.drop(2));
        due("the last, too", 4, desk.drop(3));
    }

    /** Promise 35: "A SHEET holds nothing: how many items it had." */
    private static void dropTellsItems() {
        RumourDesk desk = new RumourDesk();
        for (int n = 0; n <= 32; n++) {
            desk.sheet(0, n % 3, n);
            due("items", n, desk.drop(0));
            due("nothing then", Edges.NULL, desk.drop(0));
            due("no item of nothing", Edges.NULL, desk.item(0, n % 3, 0, 0));
        }
    }

    /** "becomes v, its lowest bits": of bytes eight. */
    private static void bytesByLowestBits() {
        RumourDesk desk = withAllStates();
        desk.sheet(0, 1, 1);
        int[] values = {0, 1, 2, 3, 4, 127, 128, 129, 252, 253, 254, 255, 256, 257, 258, 259, 260, 511, 512, 515,
            65536, 65537, -1, -252, -253, -254, -255, -256, -257, Integer.MIN_VALUE, Integer.MIN_VALUE + 3,
            Integer.MAX_VALUE};
        for (int v : values) {
            due("item", 1, desk.item(0, 1, 0, v));
            int value = (v & 255) <= 3 ? v & 255 : 4;
            due("the lowest bits of " + v, value, valueOf(desk, 0, 1, 0));
        }
    }

    private static void intsAsTheyAre() {
        RumourDesk desk = withAllStates();
        desk.sheet(0, 2, 1);
        int[] values = {0, 1, 2, 3, 4, 255, 256, 257, 65536, 65537, 1 << 24, (1 << 24) + 1, 1 << 31, (1 << 31) + 1,
            -1, -256, Integer.MAX_VALUE};
        for (int v : values) {
            due("item", 1, desk.item(0, 2, 0, v));
            due("all bits of " + v, v >= 0 && v <= 3 ? v : 4, valueOf(desk, 0, 2, 0));
        }
    }

    /** "(booleans: whether v is not 0)": by any bit of v. */
    private static void booleansByNotZero() {
        RumourDesk desk = new RumourDesk();
        desk.person(0, 0, 0, 0, 0);
        desk.sheet(0, 0, 1);
        for (int bit = 0; bit < 32; bit++) {
            due("item", 1, desk.item(0, 0, 0, 1 << bit));
            due("bit " + bit, 1, desk.reads(0, 0));
            due("to 0", 1, desk.item(0, 0, 0, 0));
            due("not any more", 0, desk.reads(0, 0));
        }
        desk.item(0, 0, 0, -1);
        due("all bits", 1, desk.reads(0, 0));
    }

    /** Promise 36: each item of 32 by itself. */
    private static void everyItem() {
        for (int i = 0; i < 32; i++) {
            RumourDesk desk = withAllStates();
            desk.sheet(0, 2, 32);
            due("item " + i, 1, desk.item(0, 2, i, 1 + i % 3));
            for (int each = 0; each < 32; each++) {
                due("item " + each, each == i ? 1 + i % 3 : 0, valueOf(desk, 0, 2, each));
            }
        }
    }

    /** "(or the same) .. as if all were taken ahead": every way to copy within a row of six. */
    private static void copyAsIfTakenAhead() {
        int[] items = {1, 2, 3, 0, 3, 2};
        for (int i = 0; i <= 6; i++) {
            for (int j = 0; j <= 6; j++) {
                for (int n = 0; n <= 6 - Math.max(i, j); n++) {
                    for (int lane = 1; lane <= 2; lane++) {
                        copyWithin(items, lane, i, j, n);
                    }
                }
            }
        }
    }

    private static void copyWithin(int[] items, int lane, int i, int j, int n) {
        RumourDesk desk = withAllStates();
        desk.sheet(2, lane, items.length);
        for (int k = 0; k < items.length; k++) {
            desk.item(2, lane, k, items[k]);
        }
        due("copy " + i + " " + j + " " + n, n, desk.copy(2, i, 2, j, n));
        for (int k = 0; k < items.length; k++) {
            int want = k >= j && k < j + n ? items[k - j + i] : items[k];
            due("item " + k + " then", want, valueOf(desk, 2, lane, k));
        }
    }

    /** "come to another one": all 32, the last alone, and the source stays. */
    private static void copyAmongSheets() {
        for (int n = 0; n <= 32; n++) {
            RumourDesk desk = withAllStates();
            desk.sheet(0, 1, 32);
            desk.sheet(3, 1, 32);
            for (int i = 0; i < 32; i++) {
                desk.item(0, 1, i, 1 + i % 3);
            }
            due("copy the last " + n, n, desk.copy(0, 32 - n, 3, 32 - n, n));
            for (int i = 0; i < 32; i++) {
                due("item " + i + " of the target", i >= 32 - n ? 1 + i % 3 : 0, valueOf(desk, 3, 1, i));
            }
            due("the source stays", 1, valueOf(desk, 0, 1, 0));
        }
        RumourDesk desk = new RumourDesk();
        Checks.settle(desk, 16, 0, 0, 0);
        desk.sheet(0, 0, 16);
        desk.sheet(1, 0, 32);
        for (int i = 0; i < 16; i += 2) {
            desk.item(0, 0, i, 1);
        }
        due("copy of booleans", 16, desk.copy(0, 0, 1, 16, 16));
        due("not the first", 0, desk.reads(1, 0));
        due("the last", 8, desk.reads(1, 16));
    }

    /** No items, from the very end to the very end, and of rows without any. */
    private static void copyOfNone() {
        RumourDesk desk = withAllStates();
        for (int lane = 0; lane <= 2; lane++) {
            desk.sheet(0, lane, 32);
            desk.sheet(1, lane, 0);
            due("from the end", 0, desk.copy(0, 32, 0, 0, 0));
            due("to the end", 0, desk.copy(0, 0, 0, 32, 0));
            due("to a row without items", 0, desk.copy(0, 0, 1, 0, 0));
            due("from a row without items", 0, desk.copy(1, 0, 0, 32, 0));
            due("one to a row without items", Edges.INDEX, desk.copy(0, 0, 1, 0, 1));
            due("one from a row without items", Edges.INDEX, desk.copy(1, 0, 0, 0, 1));
        }
    }

    /** Promise 38: "Who READS, by all PERSONS": nobody to sixteen, in a row just long enough. */
    private static void readsOfNoneAndAll() {
        for (int persons = 0; persons <= 16; persons++) {
            RumourDesk desk = new RumourDesk();
            Checks.settle(desk, persons, 0, 0, 0);
            for (int n = 0; n <= 32; n += 4) {
                desk.sheet(0, 0, n);
                for (int i = 0; i < n; i++) {
                    desk.item(0, 0, i, 1);
                }
                int last = n - persons;
                if (last >= 0) {
                    due(persons + " of " + n, persons, desk.reads(0, last));
                }
                due(persons + " behind " + n, Edges.INDEX, desk.reads(0, Math.max(0, last + 1)));
                due(persons + " ahead of " + n, Edges.INDEX, desk.reads(0, -1));
            }
        }
    }

    /** Each person by an item of one's own; who read and is not told to does not any more. */
    private static void readsAnew() {
        for (int one = 0; one < 16; one++) {
            for (int from = 0; from <= 16; from += 8) {
                RumourDesk desk = new RumourDesk();
                Checks.settle(desk, 16, 0, 0, 0);
                for (int p = 0; p < 16; p++) {
                    desk.set(p, 2, 1);
                }
                desk.sheet(0, 0, 32);
                desk.item(0, 0, from + one, 1);
                due("one reads", 1, desk.reads(0, from));
                for (int p = 0; p < 16; p++) {
                    due("whether " + p + " reads", p == one ? 1 : 0, desk.set(p, 2, 0));
                }
            }
        }
    }
}
