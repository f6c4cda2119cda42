/**
 * Every number that a call takes, promise by promise: the last that is taken and the first that is
 * refused on either side. What is refused is BAD, ahead of all other answers, and changes nothing.
 */
public final class RangesTest {
    private static final Edges EDGES = new Edges();

    public static void main(String[] args) {
        person();
        set();
        where();
        plainAndReal();
        changed();
        planted();
        told();
        weight();
        begin();
        knows();
        count();
        hours();
        reachAndHarm();
        deny();
        found();
        foretold();
        wording();
        plan();
        type();
        why();
        versions();
        report();
        could();
        posts();
        check();
        sheet();
        item();
        copy();
        reads();
        EDGES.end();
    }

    /** Promise 2; "PLACES (0 .. 5 each): HOME, WORK, BAR; FEAR (0 .. 9), DOUBT (0 .. 19)". */
    private static void person() {
        EDGES.anywhere("person: home", 0, 5, (desk, v) -> desk.person(v, 0, 0, 0, 0));
        EDGES.anywhere("person: work", 0, 5, (desk, v) -> desk.person(0, v, 0, 0, 0));
        EDGES.anywhere("person: bar", 0, 5, (desk, v) -> desk.person(0, 0, v, 0, 0));
        EDGES.anywhere("person: fear", 0, 9, (desk, v) -> desk.person(0, 0, 0, v, 0));
        EDGES.anywhere("person: doubt", 0, 19, (desk, v) -> desk.person(0, 0, 0, 0, v));
    }

    /** Promise 3; "TRUST (0 .. 99), a HABIT (0 none; 1 .. 4)", "whether one READS (2; 0, 1)". */
    private static void set() {
        EDGES.persons("set: person", (desk, v) -> desk.set(v, 0, 0));
        EDGES.behind("set: what", 0, 4, (desk, v) -> desk.set(0, v, 0));
        EDGES.behind("set: trust", 0, 99, (desk, v) -> desk.set(0, 0, v));
        EDGES.behind("set: habit", 0, 4, (desk, v) -> desk.set(0, 1, v));
        EDGES.behind("set: reads", 0, 1, (desk, v) -> desk.set(0, 2, v));
        EDGES.behind("set: fear", 0, 9, (desk, v) -> desk.set(0, 3, v));
        EDGES.behind("set: doubt", 0, 19, (desk, v) -> desk.set(0, 4, v));
    }

    /** Promise 4; "an hour (0 .. 9999 ..)", whatever NOW is. */
    private static void where() {
        EDGES.persons("where: person", (desk, v) -> desk.where(v, 0));
        EDGES.behind("where: hour", 0, 9999, (desk, v) -> desk.where(0, v));
    }

    /** Promises 5 and 8; "four PARTS 0 .. 9". */
    private static void plainAndReal() {
        EDGES.anywhere("plain: who", 0, 9, (desk, v) -> desk.plain(v, 0, 0, 0));
        EDGES.anywhere("plain: what", 0, 9, (desk, v) -> desk.plain(0, v, 0, 0));
        EDGES.anywhere("plain: many", 0, 9, (desk, v) -> desk.plain(0, 0, v, 0));
        EDGES.anywhere("plain: where", 0, 9, (desk, v) -> desk.plain(0, 0, 0, v));
        EDGES.anywhere("real: who", 0, 9, (desk, v) -> desk.real(v, 0, 0, 0, true));
        EDGES.anywhere("real: what", 0, 9, (desk, v) -> desk.real(0, v, 0, 0, false));
        EDGES.anywhere("real: many", 0, 9, (desk, v) -> desk.real(0, 0, v, 0, true));
        EDGES.anywhere("real: where", 0, 9, (desk, v) -> desk.real(0, 0, 0, v, false));
    }

    /** Promise 6; "PART 1 .. 4 is v". */
    private static void changed() {
        EDGES.sayings("changed: saying", (desk, v) -> desk.changed(v, 1, 7));
        EDGES.behind("changed: part", 1, 4, (desk, v) -> desk.changed(0, v, 7));
        for (int part = 1; part <= 4; part++) {
            int changed = part;
            EDGES.behind("changed: v of part " + part, 0, 9, (desk, v) -> desk.changed(0, changed, v));
        }
    }

    /** Promise 7. */
    private static void planted() {
        EDGES.sayings("planted: saying", (desk, v) -> desk.planted(v, 0));
        EDGES.behind("planted: hour", 0, 9999, (desk, v) -> desk.planted(0, v));
    }

    /** Promise 9. */
    private static void told() {
        EDGES.sayings("told: saying", (desk, v) -> desk.told(v, 0));
        for (int s = 0; s < Scene.BUSY.sayings; s++) {
            int saying = s;
            EDGES.behind("told: what of " + s, 0, 8, (desk, v) -> desk.told(saying, v));
        }
    }

    /** Promise 10; "WEIGHT of a what: 0 .. 9". */
    private static void weight() {
        EDGES.anywhere("weight: what", 0, 9, (desk, v) -> desk.weight(v, 0));
        EDGES.anywhere("weight: v", 0, 9, (desk, v) -> desk.weight(0, v));
    }

    /** Promise 11. */
    private static void begin() {
        EDGES.persons("begin: person", (desk, v) -> desk.begin(v, 0));
        EDGES.persons("begin: person, a planted one", (desk, v) -> desk.begin(v, 4));
        EDGES.sayings("begin: saying", (desk, v) -> desk.begin(0, v));
    }

    /** Promise 12. */
    private static void knows() {
        EDGES.persons("knows: person", (desk, v) -> desk.knows(v, 0, 0));
        EDGES.sayings("knows: saying", (desk, v) -> desk.knows(0, v, 0));
        EDGES.behind("knows: what of never", 0, 4, (desk, v) -> desk.knows(0, 0, v));
        EDGES.behind("knows: what", 0, 4, (desk, v) -> desk.knows(0, 1, v));
    }

    /** Promise 13. */
    private static void count() {
        EDGES.anywhere("count: what", 0, 4, RumourDesk::count);
    }

    /** Promise 14; "n HOURS (1 .. 96)". */
    private static void hours() {
        EDGES.anywhere("hours: n", 1, 96, RumourDesk::hours);
    }

    /** Promises 15 and 16. */
    private static void reachAndHarm() {
        EDGES.sayings("reach: saying", (desk, v) -> desk.reach(v, 0));
        EDGES.behind("reach: state", 0, 3, (desk, v) -> desk.reach(0, v));
        EDGES.sayings("harm: saying", RumourDesk::harm);
    }

    /** Promise 17; "in a WORDING: 0 short, 1 long, 2 unnamed". */
    private static void deny() {
        EDGES.sayings("deny: saying", (desk, v) -> desk.deny(v, 0));
        EDGES.behind("deny: wording", 0, 2, (desk, v) -> desk.deny(0, v));
        EDGES.behind("deny: wording of a secret", 0, 2, (desk, v) -> desk.deny(6, v));
    }

    /** Promise 18. */
    private static void found() {
        EDGES.sayings("found: saying", RumourDesk::found);
    }

    /** Promise 19; "h hours (0 .. 96)". */
    private static void foretold() {
        EDGES.anywhere("foretold: h", 0, 96, RumourDesk::foretold);
    }

    /** Promise 20; "h hours (0 .. 96)". */
    private static void wording() {
        EDGES.sayings("wording: saying", (desk, v) -> desk.wording(v, 0));
        EDGES.behind("wording: h", 0, 96, (desk, v) -> desk.wording(0, v));
        EDGES.behind("wording: h of a secret", 0, 96, (desk, v) -> desk.wording(6, v));
    }

    /** Promise 21; "h hours (0 .. 48) of a set (bits of SAYINGS that there are, four at most)". */
    private static void plan() {
        EDGES.anywhere("plan: h of no saying", 0, 48, (desk, v) -> desk.plan(0, v));
        EDGES.behind("plan: h", 0, 48, (desk, v) -> desk.plan(15, v));
        EDGES.behind("plan: h of a secret", 0, 48, (desk, v) -> desk.plan(64, v));
        for (Scene scene : Scene.values()) {
            for (int set = -2; set <= 520; set++) {
                int bits = set;
                boolean isGood = bits >= 0 && bits < 1 << scene.sayings && Integer.bitCount(bits) <= 4;
                int answer = scene.get().plan(bits, 0);
                EDGES.due("plan: set " + bits + " on " + scene, isGood ? 0 : 1, answer == Edges.BAD ? 1 : 0);
            }
            for (int bit = scene.sayings; bit < 32; bit++) {
                int bits = 1 << bit;
                EDGES.keeps("plan: bit " + bit, Edges.BAD, scene, desk -> desk.plan(bits, 0));
            }
        }
    }

    /** Promise 22; "The n lowest bytes (1 .. 8)", "a byte not 32 .. 126". */
    private static void type() {
        for (Scene scene : Scene.values()) {
            EDGES.range("type: n", 1, 8, scene, (desk, v) -> desk.type(0x7777777777777777L, v));
        }
        for (int n = 1; n <= 8; n++) {
            for (int place = 0; place < n; place++) {
                int bytes = n;
                int shift = 8 * place;
                long others = 0x7777777777777777L & ~(255L << shift);
                for (int v = 0; v <= 255; v++) {
                    int answer = new RumourDesk().type(others | (long) v << shift, n);
                    EDGES.due("type: byte " + v + " at " + place, v >= 32 && v <= 126 ? n : Edges.BAD, answer);
                }
                for (int v : new int[] {0, 31, 127, 128, 255}) {
                    long w = others | (long) v << shift;
                    EDGES.keeps("type: byte " + v + " at " + place, Edges.BAD, Scene.BUSY, d -> d.type(w, bytes));
                    EDGES.keeps("type: byte " + v + " at " + place, Edges.BAD, Scene.FULL, d -> d.type(w, bytes));
                }
            }
        }
    }

    /** Promise 24. */
    private static void why() {
        EDGES.sayings("why: saying", (desk, v) -> desk.why(v, 0));
        EDGES.behind("why: what", 0, 1, (desk, v) -> desk.why(0, v));
        EDGES.behind("why: what, a clause or none", 0, 1, (desk, v) -> desk.why(1, v));
    }

    /** Promises 25, 26 and 27. */
    private static void versions() {
        EDGES.sayings("versions: saying", RumourDesk::versions);
        EDGES.sayings("kin: saying", RumourDesk::kin);
        EDGES.behind("version: what", 0, 1, (desk, v) -> desk.version(1, 0, v));
        for (Scene scene : Scene.values()) {
            for (int s = 0; s < scene.sayings; s++) {
                int saying = s;
                int last = scene.get().versions(s) - 1;
                EDGES.range("version: i of " + s, 0, last, scene, (desk, v) -> desk.version(saying, v, 0));
                EDGES.range("version: i of " + s, 0, last, scene, (desk, v) -> desk.version(saying, v, 1));
            }
            for (int s : new int[] {-1, scene.sayings, Integer.MIN_VALUE, Integer.MAX_VALUE}) {
                EDGES.keeps("version: saying " + s, Edges.BAD, scene, desk -> desk.version(s, 0, 0));
            }
        }
    }

    /** Promise 28; "at a PLACE, at an hour (0 .. 23)". */
    private static void report() {
        EDGES.anywhere("report: place", 0, 5, (desk, v) -> desk.report(v, 0, true));
        EDGES.anywhere("report: hour", 0, 23, (desk, v) -> desk.report(0, v, false));
    }

    /** Promises 30 and 31; "at an hour (0 .. 23)". */
    private static void could() {
        EDGES.sayings("could: saying", (desk, v) -> desk.could(v, 0, 0));
        EDGES.persons("could: person", (desk, v) -> desk.could(0, v, 0));
        EDGES.behind("could: hour", 0, 23, (desk, v) -> desk.could(0, 0, v));
        EDGES.sayings("first: saying", RumourDesk::first);
    }

    /** Promise 32; "k PLACES (1 .. 3)". */
    private static void posts() {
        EDGES.anywhere("posts: k", 1, 3, (desk, v) -> desk.posts(v, 0));
        EDGES.anywhere("posts: k, the sum", 1, 3, (desk, v) -> desk.posts(v, 1));
        EDGES.anywhere("posts: what", 0, 1, (desk, v) -> desk.posts(1, v));
    }

    /** Promise 33; "a row of a LANE 1, 2", "h hours from NOW (0 .. 48)", "SHEETS 0 .. 3". */
    private static void check() {
        EDGES.sayings("check: saying", (desk, v) -> desk.check(v, 0, 1, 1, 0));
        EDGES.behind("check: h", 0, 48, (desk, v) -> desk.check(0, v, 1, 1, 0));
        EDGES.behind("check: h, no such items", 0, 48, (desk, v) -> desk.check(0, v, 1, 1, 99));
        EDGES.behind("check: sheet", 0, 3, (desk, v) -> desk.check(0, 0, v, 1, 0));
        EDGES.behind("check: lane", 1, 2, (desk, v) -> desk.check(0, 0, 1, v, 0));
        EDGES.behind("check: lane of a row of booleans", 1, 2, (desk, v) -> desk.check(0, 0, 0, v, 0));
    }

    /** Promises 34 and 35; "SHEETS 0 .. 3", "a LANE: 0 booleans, 1 bytes, 2 ints", "BAD: also n above 32". */
    private static void sheet() {
        EDGES.anywhere("sheet: sheet", 0, 3, (desk, v) -> desk.sheet(v, 0, 1));
        EDGES.anywhere("sheet: sheet, n below 0", 0, 3, (desk, v) -> desk.sheet(v, 0, -1));
        EDGES.anywhere("sheet: lane", 0, 2, (desk, v) -> desk.sheet(0, v, 1));
        EDGES.anywhere("sheet: lane, n below 0", 0, 2, (desk, v) -> desk.sheet(0, v, -1));
        for (Scene scene : Scene.values()) {
            for (int n = 0; n <= 32; n++) {
                EDGES.due("sheet: n " + n, n, scene.get().sheet(1, n % 3, n));
            }
            for (int n : new int[] {33, 34, 64, Integer.MAX_VALUE}) {
                EDGES.keeps("sheet: n " + n, Edges.BAD, scene, desk -> desk.sheet(1, 2, n));
            }
        }
        EDGES.anywhere("drop: sheet", 0, 3, RumourDesk::drop);
    }

    /** Promise 36. */
    private static void item() {
        EDGES.anywhere("item: sheet", 0, 3, (desk, v) -> desk.item(v, 0, 0, 1));
        EDGES.anywhere("item: lane", 0, 2, (desk, v) -> desk.item(1, v, 0, 1));
        EDGES.anywhere("item: lane, no such item", 0, 2, (desk, v) -> desk.item(1, v, 99, 1));
    }

    /** Promise 37. */
    private static void copy() {
        EDGES.anywhere("copy: from", 0, 3, (desk, v) -> desk.copy(v, 0, 1, 0, 1));
        EDGES.anywhere("copy: to", 0, 3, (desk, v) -> desk.copy(1, 0, v, 0, 1));
        EDGES.anywhere("copy: from, no such items", 0, 3, (desk, v) -> desk.copy(v, 99, 1, 99, -1));
        EDGES.anywhere("copy: to, no such items", 0, 3, (desk, v) -> desk.copy(1, 99, v, 99, -1));
    }

    /** Promise 38. */
    private static void reads() {
        EDGES.anywhere("reads: sheet", 0, 3, (desk, v) -> desk.reads(v, 0));
        EDGES.anywhere("reads: sheet, no such items", 0, 3, (desk, v) -> desk.reads(v, 99));
    }
}
