import java.util.function.Supplier;
import java.util.function.ToIntFunction;

/**
 * Promise by promise, what is refused otherwise than by BAD, at its very edge: it answers as told, ahead of
 * what the call names behind it, and changes nothing; what is next to it is taken.
 */
public final class RefusalsTest {
    private static final int NOT = Edges.NOT, FULL = Edges.FULL, NONE = Edges.NONE;
    private static final int NULL = Edges.NULL, CAST = Edges.CAST, INDEX = Edges.INDEX, SIZE = Edges.SIZE;
    private static final Scene[] BOTH = {Scene.BUSY, Scene.FULL};
    private static final int SECRET = 6;
    private static final Edges EDGES = new Edges();

    public static void main(String[] args) {
        scenes();
        questions();
        sixteenPersons();
        eightSayings();
        changedAsItIs();
        toldOfOthers();
        plantedAheadOfItsHour();
        knowsOfNever();
        hoursAboveTheLast();
        secrets();
        foundOfOthers();
        fullTape();
        faults();
        noClause();
        firstVersion();
        twelveReports();
        check();
        sheetBelowNothing();
        dropNothing();
        item();
        copy();
        copyOfManyLengths();
        reads();
        EDGES.end();
    }

    private static void due(String call, long want, long got) {
        EDGES.due(call, want, got);
    }

    private static void keeps(String name, int want, Supplier<RumourDesk> start, ToIntFunction<RumourDesk> call) {
        EDGES.keeps(name, want, start, call);
    }

    /** The scenes are what the tests here take them for. */
    private static void scenes() {
        for (Scene scene : Scene.values()) {
            RumourDesk desk = scene.get();
            due("persons of " + scene, scene.persons, desk.count(0));
            due("sayings of " + scene, scene.sayings, desk.count(1));
        }
        for (Scene scene : BOTH) {
            for (int s = 0; s <= 3; s++) {
                due("state of saying " + s, s, scene.get().knows(0, s, 0));
            }
            due("may not be told", 0, scene.get().told(SECRET, 7));
            due("could have begun with some", 1, scene.get().first(0) > 0 ? 1 : 0);
            due("not with person 0", 0, scene.get().first(0) & 1);
        }
        due("clauses", 3, Scene.BUSY.get().count(2));
        due("hour", 60, Scene.BUSY.get().count(4));
        due("all clauses", 6, Scene.FULL.get().count(2));
        due("all reports", 12, Scene.FULL.get().count(3));
        due("the last hour", 9999, Scene.FULL.get().count(4));
        due("what was typed", 1, Scene.FULL.get().guide());
    }

    /** "nothing of it stays", and the same of all that only asks. */
    private static void questions() {
        for (Scene scene : BOTH) {
            question("where", scene, desk -> desk.where(1, 9999));
            question("told", scene, desk -> desk.told(4, 6));
            question("knows", scene, desk -> desk.knows(0, 3, 4));
            question("count", scene, desk -> desk.count(4));
            question("reach", scene, desk -> desk.reach(1, 1));
            question("harm", scene, desk -> desk.harm(1));
            question("foretold", scene, desk -> desk.foretold(96));
            question("wording", scene, desk -> desk.wording(1, 96));
            question("plan", scene, desk -> desk.plan(15, 48));
            question("why", scene, desk -> desk.why(0, 1));
            question("versions", scene, desk -> desk.versions(1));
            question("version", scene, desk -> desk.version(1, 0, 0));
            question("kin", scene, desk -> desk.kin(1));
            question("could", scene, desk -> desk.could(1, 3, 0));
            question("first", scene, desk -> desk.first(1));
            question("posts", scene, desk -> desk.posts(3, 1));
            question("check", scene, desk -> desk.check(1, 48, 1, 1, 0));
        }
    }

    private static void question(String name, Scene scene, ToIntFunction<RumourDesk> call) {
        int answer = call.applyAsInt(scene.get());
        due(name + " is answered", 1, answer >= 0 ? 1 : 0);
        keeps(name, answer, scene, call);
    }

    /** Promise 2: "FULL: 16." */
    private static void sixteenPersons() {
        keeps("a seventeenth person", FULL, Scene.FULL, desk -> desk.person(5, 5, 5, 9, 19));
        RumourDesk desk = Scene.BUSY.get();
        for (int p = 10; p <= 15; p++) {
            due("person " + p, p, desk.person(0, 0, 0, 0, 0));
        }
        due("no person 16", FULL, desk.person(0, 0, 0, 0, 0));
        due("still sixteen", 16, desk.count(0));
    }

    /** Promises 5 to 8: "FULL: 8." */
    private static void eightSayings() {
        for (int kind = 0; kind <= 3; kind++) {
            int each = kind;
            keeps("a ninth saying of kind " + kind, FULL, Scene.FULL, desk -> sayingOf(desk, each));
            RumourDesk desk = Scene.BUSY.get();
            due("an eighth saying of kind " + kind, 7, sayingOf(desk, kind));
            due("its kind", kind, desk.told(7, 0));
            due("a ninth behind it", FULL, sayingOf(desk, kind));
        }
    }

    private static int sayingOf(RumourDesk desk, int kind) {
        switch (kind) {
            case 0: return desk.plain(0, 9, 0, 9);
            case 1: return desk.changed(0, 1, 9);
            case 2: return desk.planted(0, 9999);
            default: return desk.real(9, 0, 9, 0, false);
        }
    }

    /** Promise 6: "NOT: it is v already; FULL." */
    private static void changedAsItIs() {
        for (Scene scene : BOTH) {
            for (int s = 0; s < scene.sayings; s++) {
                for (int part = 1; part <= 4; part++) {
                    changedPart(scene, s, part, scene.get().told(s, part));
                }
            }
        }
    }

    private static void changedPart(Scene scene, int saying, int part, int is) {
        keeps("changed to what it is", NOT, scene, desk -> desk.changed(saying, part, is));
        for (int v = 0; v <= 9; v++) {
            if (v != is) {
                int want = scene == Scene.FULL ? FULL : 7;
                due("changed to another", want, scene.get().changed(saying, part, v));
            }
        }
    }

    /** Promise 9: "CAST: 5, 6, 7 of others." */
    private static void toldOfOthers() {
        int[][] answered = {{}, {5}, {5, 6}, {7}};
        for (Scene scene : BOTH) {
            for (int s = 0; s < scene.sayings; s++) {
                int saying = s;
                int kind = scene.get().told(s, 0);
                for (int what = 5; what <= 7; what++) {
                    int each = what;
                    boolean isOwn = false;
                    for (int own : answered[kind]) {
                        isOwn |= own == what;
                    }
                    if (isOwn) {
                        due("told " + what + " of kind " + kind, 1, scene.get().told(s, what) >= 0 ? 1 : 0);
                    } else {
                        keeps("told " + what + " of kind " + kind, CAST, scene, desk -> desk.told(saying, each));
                    }
                }
            }
        }
    }

    /** Promise 11: "NOT: a PLANTED one ahead of its hour." */
    private static void plantedAheadOfItsHour() {
        for (int p = 0; p < Scene.BUSY.persons; p++) {
            int person = p;
            keeps("begin far ahead of its hour", NOT, Scene.BUSY, desk -> desk.begin(person, 4));
        }
        Supplier<RumourDesk> hourAhead = () -> {
            RumourDesk desk = Scene.BUSY.get();
            desk.planted(0, 61);
            return desk;
        };
        keeps("begin an hour ahead", NOT, hourAhead, desk -> desk.begin(0, 7));
        for (int hour = 58; hour <= 60; hour++) {
            RumourDesk desk = Scene.BUSY.get();
            desk.planted(0, hour);
            due("begin at 60, planted from " + hour, 0, desk.begin(0, 7));
        }
        Supplier<RumourDesk> lastButOne = () -> {
            RumourDesk desk = new RumourDesk();
            Checks.pass(desk, 9998);
            desk.person(0, 0, 0, 0, 0);
            desk.plain(0, 0, 0, 0);
            desk.planted(0, 9999);
            return desk;
        };
        keeps("begin ahead of the last hour", NOT, lastButOne, desk -> desk.begin(0, 1));
        RumourDesk last = lastButOne.get();
        last.hours(1);
        due("begin at the last hour", 0, last.begin(0, 1));
        RumourDesk first = new RumourDesk();
        first.person(0, 0, 0, 0, 0);
        first.plain(0, 0, 0, 0);
        first.planted(0, 0);
        due("begin at the first hour", 0, first.begin(0, 1));
    }

    /** Promise 12: "NONE: 1 .. 4 of NEVER." */
    private static void knowsOfNever() {
        for (Scene scene : BOTH) {
            due("never: the state", 0, scene.get().knows(0, 0, 0));
            for (int what = 1; what <= 4; what++) {
                int each = what;
                keeps("never: " + what, NONE, scene, desk -> desk.knows(0, 0, each));
                for (int s = 1; s <= 3; s++) {
                    due("heard: " + what, 1, scene.get().knows(0, s, what) >= 0 ? 1 : 0);
                }
            }
        }
    }

    /** Promise 14: "NOT: NOW would be above 9999." */
    private static void hoursAboveTheLast() {
        for (int n = 1; n <= 96; n++) {
            RumourDesk desk = Scene.FULL.get();
            due("hours " + n + " at the last", NOT, desk.hours(n));
            due("it stays the last", 9999, desk.count(4));
            RumourDesk early = atHour(9999 - n);
            due("hours " + n + " to the last", 9999, early.hours(n));
            RumourDesk late = atHour(10000 - n);
            due("hours " + n + " above the last", NOT, late.hours(n));
            due("NOW stays", 10000 - n, late.count(4));
        }
        keeps("one hour above", NOT, Scene.FULL, desk -> desk.hours(1));
        keeps("96 hours above", NOT, Scene.FULL, desk -> desk.hours(96));
        Supplier<RumourDesk> telling = () -> {
            RumourDesk desk = atHour(9904);
            Checks.settle(desk, 2, 0, 9, 0);
            desk.plain(0, 0, 0, 0);
            desk.begin(0, 0);
            return desk;
        };
        keeps("none of 96 hours passes", NOT, telling, desk -> desk.hours(96));
        due("95 of them pass", 9999, telling.get().hours(95));
    }

    private static RumourDesk atHour(int hour) {
        RumourDesk desk = new RumourDesk();
        Checks.pass(desk, hour);
        return desk;
    }

    /** Promises 17, 20 and 21: "NOT: a TRUE one that MAY not be told". */
    private static void secrets() {
        for (Scene scene : BOTH) {
            for (int wording = 0; wording <= 2; wording++) {
                int each = wording;
                keeps("deny a secret", NOT, scene, desk -> desk.deny(SECRET, each));
                due("deny one that may be told", 1, scene.get().deny(5, wording) >= 0 ? 1 : 0);
            }
            for (int h = 0; h <= 96; h += 48) {
                int each = h;
                keeps("wording of a secret", NOT, scene, desk -> desk.wording(SECRET, each));
                due("wording of one that may be told", 3, scene.get().wording(5, h));
            }
            for (int others = 0; others < 1 << SECRET; others++) {
                int set = 1 << SECRET | others;
                int want = Integer.bitCount(set) > 4 ? Edges.BAD : NOT;
                due("plan " + set + " with a secret", want, scene.get().plan(set, 0));
            }
            keeps("plan of a secret alone", NOT, scene, desk -> desk.plan(1 << SECRET, 48));
            keeps("plan of three and a secret", NOT, scene, desk -> desk.plan(1 << SECRET | 7, 0));
        }
        secretsFromTheFirstToTheLast();
    }

    private static void secretsFromTheFirstToTheLast() {
        for (int secret = 0; secret <= 7; secret++) {
            RumourDesk desk = new RumourDesk();
            for (int s = 0; s <= 7; s++) {
                desk.real(0, 0, 0, 0, s != secret);
            }
            for (int s = 0; s <= 7; s++) {
                due("deny " + s + ", the secret is " + secret, s == secret ? NOT : 0, desk.deny(s, 0));
                due("wording of " + s, s == secret ? NOT : 3, desk.wording(s, 0));
                due("plan of " + s, s == secret ? NOT : 0, desk.plan(1 << s, 0));
                due("found " + s, s == secret ? 0 : 1, desk.found(s));
            }
        }
    }

    /** Promise 18: "CAST: not TRUE." */
    private static void foundOfOthers() {
        for (Scene scene : BOTH) {
            for (int s = 0; s <= 4; s++) {
                int saying = s;
                keeps("found of saying " + s, CAST, scene, desk -> desk.found(saying));
            }
            due("found of a true one", 1, scene.get().found(5));
            due("found of a secret", 0, scene.get().found(SECRET));
        }
    }

    /** Promise 22: "FULL: 120." */
    private static void fullTape() {
        for (int n = 1; n <= 8; n++) {
            int bytes = n;
            keeps(n + " bytes behind 120", FULL, Scene.FULL, desk -> desk.type(0x2020202020202020L, bytes));
            Supplier<RumourDesk> tooFew = () -> {
                RumourDesk desk = Scene.withoutTape();
                Checks.write(desk, " ".repeat(121 - bytes));
                return desk;
            };
            keeps(n + " bytes behind " + (121 - n), FULL, tooFew, desk -> desk.type(0x2020202020202020L, bytes));
            RumourDesk desk = Scene.withoutTape();
            Checks.write(desk, " ".repeat(120 - n));
            due(n + " bytes up to 120", 120, desk.type(0x2020202020202020L, n));
            due("not one more", FULL, desk.type(' ', 1));
        }
    }

    /** Promise 23: "THE TAPE, which is empty then", "A FAULT (THE GUIDE stays)": that is all that changes. */
    private static void faults() {
        Supplier<RumourDesk> untyped = Scene::withoutTape;
        String[] wrong = {"x", "w=3", "w=9:d;w=9:d;w=9:d;w=9:d;w=9:d;w=9:d;", "w=9:d@417", "((((((w=9))))))"};
        int[] places = {0, 3, 35, 6, 5};
        for (int i = 0; i < wrong.length; i++) {
            String text = wrong[i];
            keeps("guide of '" + text + "'", -20 - places[i], untyped, desk -> Checks.guide(desk, text));
        }
    }

    /** Promise 24: "NONE": no guide; none holds; none is in force yet. */
    private static void noClause() {
        String[] guides = {"", "w=2:d", "w=1:d@3", "w=1:d@416;!w=1:h"};
        for (String text : guides) {
            Supplier<RumourDesk> start = () -> {
                RumourDesk desk = Scene.withoutTape();
                Checks.guide(desk, text);
                return desk;
            };
            keeps("why by '" + text + "'", NONE, start, desk -> desk.why(0, 0));
            keeps("act by '" + text + "'", NONE, start, desk -> desk.why(0, 1));
        }
    }

    /** Promise 26: "NONE: the first". */
    private static void firstVersion() {
        for (Scene scene : BOTH) {
            keeps("the first version is joined", NONE, scene, desk -> desk.version(1, 0, 1));
            due("the first version", 1, scene.get().version(1, 0, 0) >= 0 ? 1 : 0);
        }
    }

    /** Promise 28: "FULL: 12." */
    private static void twelveReports() {
        keeps("a thirteenth report", FULL, Scene.FULL, desk -> desk.report(3, 0, true));
        keeps("a thirteenth report of nobody", FULL, Scene.FULL, desk -> desk.report(1, 23, false));
        RumourDesk desk = Scene.BUSY.get();
        for (int i = 5; i <= 11; i++) {
            due("report " + i, i, desk.report(0, 0, true));
        }
        due("no report 12", FULL, desk.report(0, 0, true));
        due("all go", 12, desk.clear());
        due("as many go as there are", 0, desk.clear());
        due("from 0 on again", 0, desk.report(0, 0, true));
    }

    /** Promise 33: "BAD; NULL; CAST; INDEX; NONE". */
    private static void check() {
        int[] indices = {Integer.MIN_VALUE, -1, 0, 10, 11, 20, 32, 33, Integer.MAX_VALUE};
        for (int i : indices) {
            for (int lane = 1; lane <= 2; lane++) {
                int each = lane;
                keeps("check of nothing", NULL, Scene.BUSY, desk -> desk.check(0, 0, 3, each, i));
                keeps("check of booleans", CAST, Scene.BUSY, desk -> desk.check(0, 0, 0, each, i));
                keeps("check of another lane", CAST, Scene.BUSY, desk -> desk.check(0, 0, each, 3 - each, i));
            }
        }
        for (Scene scene : BOTH) {
            int last = (scene == Scene.FULL ? 32 : 20) - scene.persons;
            for (int i = 0; i <= last; i++) {
                due("check from " + i, 1, scene.get().check(0, 0, 1, 1, i) != INDEX ? 1 : 0);
            }
            for (int i : new int[] {-1, last + 1, Integer.MIN_VALUE, Integer.MAX_VALUE}) {
                keeps("check from " + i, INDEX, scene, desk -> desk.check(0, 0, 1, 1, i));
                keeps("check of ints from " + i, INDEX, scene, desk -> desk.check(0, 48, 2, 2, i));
            }
        }
        Supplier<RumourDesk> asTold = () -> {
            RumourDesk desk = Scene.EMPTY.get();
            desk.person(0, 0, 0, 0, 0);
            desk.plain(0, 0, 0, 0);
            desk.sheet(0, 2, 1);
            return desk;
        };
        keeps("all are as told", NONE, asTold, desk -> desk.check(0, 48, 0, 2, 0));
    }

    /** Promise 34: "SIZE: n below 0." */
    private static void sheetBelowNothing() {
        for (Scene scene : Scene.values()) {
            for (int lane = 0; lane <= 2; lane++) {
                for (int n : new int[] {-1, -2, Integer.MIN_VALUE}) {
                    int each = lane;
                    keeps("sheet of " + n, SIZE, scene, desk -> desk.sheet(1, each, n));
                }
                due("sheet of none", 0, scene.get().sheet(1, lane, 0));
            }
        }
    }

    /** Promise 35: "NULL". */
    private static void dropNothing() {
        for (int sheet = 0; sheet <= 3; sheet++) {
            int each = sheet;
            keeps("drop of nothing", NULL, Scene.EMPTY, desk -> desk.drop(each));
            due("drop", 32, Scene.FULL.get().drop(sheet));
        }
        keeps("drop of nothing", NULL, Scene.BUSY, desk -> desk.drop(3));
        RumourDesk desk = Scene.BUSY.get();
        due("drop", 20, desk.drop(0));
        due("nothing more", NULL, desk.drop(0));
        due("a row without items is a row", 0, desk.sheet(0, 0, 0));
        due("drop of that", 0, desk.drop(0));
    }

    /** Promise 36: "BAD; NULL; CAST; INDEX." */
    private static void item() {
        int[] indices = {Integer.MIN_VALUE, -1, 0, 19, 20, 32, Integer.MAX_VALUE};
        for (int lane = 0; lane <= 2; lane++) {
            int each = lane;
            for (int i : indices) {
                keeps("item of nothing", NULL, Scene.BUSY, desk -> desk.item(3, each, i, 1));
                keeps("item of another lane", CAST, Scene.BUSY, desk -> desk.item((each + 1) % 3, each, i, 1));
                keeps("item of yet another", CAST, Scene.BUSY, desk -> desk.item((each + 2) % 3, each, i, 1));
                if (i < 0 || i > 19) {
                    keeps("item " + i, INDEX, Scene.BUSY, desk -> desk.item(each, each, i, 1));
                } else {
                    due("item " + i, 1, Scene.BUSY.get().item(lane, lane, i, 1));
                }
            }
            due("the last of 32", 1, Scene.FULL.get().item(lane, lane, 31, 1));
            keeps("one behind 32", INDEX, Scene.FULL, desk -> desk.item(each, each, 32, 1));
        }
    }

    /** Promise 37: "BAD; NULL (either); CAST: of unlike LANES; INDEX." */
    private static void copy() {
        int[][] spans = {{0, 0, 1}, {0, 0, 0}, {0, 0, 99}, {-1, 0, 1}, {0, 99, 1}, {0, 0, -1}};
        for (int[] s : spans) {
            keeps("copy from nothing", NULL, Scene.BUSY, desk -> desk.copy(3, s[0], 0, s[1], s[2]));
            keeps("copy to nothing", NULL, Scene.BUSY, desk -> desk.copy(0, s[0], 3, s[1], s[2]));
            keeps("copy of nothing to nothing", NULL, Scene.BUSY, desk -> desk.copy(3, s[0], 3, s[1], s[2]));
            for (int from = 0; from <= 2; from++) {
                int one = from;
                int other = (from + 1) % 3;
                keeps("copy to another lane", CAST, Scene.BUSY, desk -> desk.copy(one, s[0], other, s[1], s[2]));
                keeps("copy from another lane", CAST, Scene.BUSY, desk -> desk.copy(other, s[0], one, s[1], s[2]));
            }
        }
        int[][] outside = {{0, 0, 33}, {1, 0, 32}, {0, 1, 32}, {31, 0, 2}, {0, 31, 2}, {32, 0, 1}, {0, 32, 1},
            {-1, 0, 1}, {0, -1, 1}, {0, 0, -1}, {0, 0, Integer.MIN_VALUE}, {0, 0, Integer.MAX_VALUE},
            {Integer.MAX_VALUE, 0, 1}, {0, Integer.MAX_VALUE, 1}, {Integer.MIN_VALUE, 0, 1},
            {0, Integer.MIN_VALUE, 1}, {1, 1, Integer.MAX_VALUE}};
        for (int[] o : outside) {
            keeps("copy within a row", INDEX, Scene.FULL, desk -> desk.copy(2, o[0], 2, o[1], o[2]));
            keeps("copy to another row", INDEX, Scene.FULL, desk -> desk.copy(0, o[0], 3, o[1], o[2]));
        }
    }

    private static void copyOfManyLengths() {
        for (int i = -1; i <= 5; i++) {
            for (int j = -1; j <= 4; j++) {
                for (int n = -1; n <= 5; n++) {
                    RumourDesk desk = new RumourDesk();
                    desk.sheet(1, 2, 4);
                    desk.sheet(2, 2, 3);
                    boolean isGood = i >= 0 && j >= 0 && n >= 0 && i + n <= 4 && j + n <= 3;
                    String call = "copy(1, " + i + ", 2, " + j + ", " + n + ")";
                    due(call, isGood ? n : INDEX, desk.copy(1, i, 2, j, n));
                }
            }
        }
    }

    /** Promise 38: "BAD; NULL; CAST; INDEX." */
    private static void reads() {
        int[] indices = {Integer.MIN_VALUE, -1, 0, 10, 11, 20, 32, Integer.MAX_VALUE};
        for (int i : indices) {
            keeps("reads from nothing", NULL, Scene.BUSY, desk -> desk.reads(3, i));
            keeps("reads from bytes", CAST, Scene.BUSY, desk -> desk.reads(1, i));
            keeps("reads from ints", CAST, Scene.BUSY, desk -> desk.reads(2, i));
        }
        for (Scene scene : BOTH) {
            int last = (scene == Scene.FULL ? 32 : 20) - scene.persons;
            for (int i = 0; i <= last; i++) {
                due("reads from " + i, 1, scene.get().reads(0, i) >= 0 ? 1 : 0);
            }
            for (int i : new int[] {-1, last + 1, Integer.MIN_VALUE, Integer.MAX_VALUE}) {
                keeps("reads from " + i, INDEX, scene, desk -> desk.reads(0, i));
            }
        }
    }
}
