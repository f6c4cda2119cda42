import java.util.Random;

/**
 * Runs of some 480 random calls, each held against the model; the arguments are mostly good ones, at times
 * edges and at times anything at all. The seeds are fixed, so every run of this test is the same.
 */
public final class ModelTest {
    private static final int RUNS = 400;
    private static final int[] WILD = {-1, Integer.MIN_VALUE, Integer.MAX_VALUE, 10000, -20, 64, 33, 1 << 16};
    private static final Checks CHECKS = new Checks();

    private final Random random;
    private final RumourDesk desk = new RumourDesk();
    private final Model model = new Model();
    /** How far apart the places of this run are: few places let many persons meet. */
    private final int places;
    private final int run;
    private int calls;

    private ModelTest(int run) {
        this.run = run;
        random = new Random(run);
        places = 1 + random.nextInt(6);
    }

    public static void main(String[] args) {
        int runs = args.length > 0 ? Integer.parseInt(args[0]) : RUNS;
        for (int run = 0; run < runs; run++) {
            new ModelTest(run).go();
        }
        CHECKS.end();
    }

    private void go() {
        if (run % 8 == 1) {
            family();
        } else if (run % 8 > 0) {
            opening();
        }
        // What is begun below may take some forty calls, and more than 512 are not promised.
        while (calls < 512 - 40) {
            call(random.nextInt(64));
        }
    }

    /** Most runs start with persons who differ and sayings that have begun: else little would happen. */
    private void opening() {
        int newcomers = 2 + random.nextInt(15);
        for (int i = 0; i < newcomers; i++) {
            person();
        }
        for (int p = 0; p < newcomers; p++) {
            set(p, 1, random.nextInt(5));
            set(p, 2, random.nextInt(2));
            if (run % 4 == 1) {
                set(p, 0, random.nextInt(100));
            }
        }
        int started = 1 + random.nextInt(8);
        for (int i = 0; i < started; i++) {
            newSaying(random.nextInt(4));
            begin(someone(), i);
        }
    }

    /** Each newcomer takes the saying from one person alone, by a habit, so that versions are many. */
    private void family() {
        newSaying(0);
        due("person", model.person(0, 0, 0, 0, 0), desk.person(0, 0, 0, 0, 0));
        begin(0, 0);
        int newcomers = 3 + random.nextInt(13);
        for (int p = 1; p <= newcomers; p++) {
            int teller = random.nextInt(p);
            set(teller, 3, 9);
            set(teller, 1, 1 + random.nextInt(4));
            due("person", model.person(0, 0, 0, 0, 0), desk.person(0, 0, 0, 0, 0));
            due("hours", model.hours(1), desk.hours(1));
            set(teller, 3, 0);
            if (random.nextInt(3) == 0) {
                begin(random.nextInt(p), 0);
            }
            for (int i = 0; i <= 12; i += 1 + random.nextInt(4)) {
                due("version 0 " + i + " 1", model.version(0, i, 1), desk.version(0, i, 1));
            }
            due("kin 0", model.kin(0), desk.kin(0));
        }
    }

    /** Mostly 0 .. top, at times one above, rarely anything. */
    private int to(int top) {
        int luck = random.nextInt(60);
        if (luck == 0) {
            return WILD[random.nextInt(WILD.length)];
        }
        return luck == 1 ? top + 1 : random.nextInt(top + 1);
    }

    private int from1(int top) {
        int luck = random.nextInt(60);
        return luck == 0 ? to(top) : 1 + random.nextInt(top);
    }

    private int someone() {
        return to(Math.max(0, model.persons.size() - 1));
    }

    private int something() {
        return to(Math.max(0, model.sayings.size() - 1));
    }

    private void due(String call, int want, int got) {
        calls++;
        CHECKS.due("run " + run + " at " + model.now + ": " + call, want, got);
    }

    private void person() {
        int home = to(places - 1);
        int work = to(places - 1);
        int bar = to(places - 1);
        int fear = to(9);
        int doubt = to(random.nextBoolean() ? 19 : 9);
        due("person", model.person(home, work, bar, fear, doubt), desk.person(home, work, bar, fear, doubt));
    }

    private void set(int p, int what, int v) {
        due("set " + p + " " + what + " " + v, model.set(p, what, v), desk.set(p, what, v));
    }

    private void begin(int p, int s) {
        due("begin " + p + " " + s, model.begin(p, s), desk.begin(p, s));
    }

    private void newSaying(int kind) {
        int s = something();
        int who = to(9);
        int what = to(9);
        int many = to(9);
        int where = to(9);
        if (kind == 0) {
            due("plain", model.plain(who, what, many, where), desk.plain(who, what, many, where));
        } else if (kind == 1) {
            int part = from1(4);
            due("changed", model.changed(s, part, who), desk.changed(s, part, who));
        } else if (kind == 2) {
            int hour = random.nextInt(4) == 0 ? to(9999) : to(60);
            due("planted", model.planted(s, hour), desk.planted(s, hour));
        } else {
            boolean may = random.nextInt(3) > 0;
            due("real", model.real(who, what, many, where, may), desk.real(who, what, many, where, may));
        }
    }

    private void call(int which) {
        if (which < 13) {
            firstPart(which);
        } else if (which < 35) {
            secondPart(which);
        } else if (which < 50) {
            thirdPart(which);
        } else {
            sheets(which);
        }
    }

    private void firstPart(int which) {
        int s = something();
        int p = someone();
        switch (which) {
            case 0:
                if (random.nextInt(8) == 0) {
                    person();
                }
                break;
            case 1: {
                int what = to(4);
                int[] tops = {99, 4, 1, 9, 19};
                set(p, what, to(what >= 0 && what <= 4 ? tops[what] : 5));
                break;
            }
            case 2: {
                int hour = to(9999);
                due("where " + p + " " + hour, model.where(p, hour), desk.where(p, hour));
                break;
            }
            case 3:
                if (random.nextInt(4) == 0) {
                    newSaying(random.nextInt(4));
                }
                break;
            case 4: {
                int what = to(8);
                due("told " + s + " " + what, model.told(s, what), desk.told(s, what));
                break;
            }
            case 5: {
                int what = to(9);
                int v = to(9);
                due("weight", model.weight(what, v), desk.weight(what, v));
                break;
            }
            case 6:
            case 7:
                begin(p, s);
                break;
            case 8:
            case 9: {
                int what = to(4);
                due("count " + what, model.count(what), desk.count(what));
                break;
            }
            default:
                allThatIsKnown(s);
                break;
        }
    }

    private void allThatIsKnown(int s) {
        int p = someone();
        for (int what = -1; what <= 5; what++) {
            due("knows " + p + " " + s + " " + what, model.knows(p, s, what), desk.knows(p, s, what));
        }
    }

    private void secondPart(int which) {
        int s = something();
        switch (which) {
            case 13:
            case 14:
            case 15:
            case 16: {
                int n = random.nextInt(8) > 0 ? from1(6) : from1(run % 5 == 0 ? 96 : 30);
                due("hours " + n, model.hours(n), desk.hours(n));
                break;
            }
            case 17:
            case 18: {
                int state = to(3);
                due("reach " + s + " " + state, model.reach(s, state), desk.reach(s, state));
                break;
            }
            case 19:
            case 20:
                due("harm " + s, model.harm(s), desk.harm(s));
                break;
            case 21:
            case 22: {
                int w = to(2);
                due("deny " + s + " " + w, model.deny(s, w), desk.deny(s, w));
                break;
            }
            case 23:
                due("found " + s, model.found(s), desk.found(s));
                break;
            case 24:
            case 25: {
                int h = to(random.nextInt(4) == 0 ? 96 : 30);
                due("foretold " + h, model.foretold(h), desk.foretold(h));
                break;
            }
            case 26:
            case 27: {
                int h = to(random.nextInt(4) == 0 ? 96 : 30);
                due("wording " + s + " " + h, model.wording(s, h), desk.wording(s, h));
                break;
            }
            case 28: {
                int set = to((1 << model.sayings.size()) - 1);
                int h = to(random.nextInt(4) == 0 ? 48 : 15);
                due("plan " + set + " " + h, model.plan(set, h), desk.plan(set, h));
                break;
            }
            case 29:
            case 30: {
                String text = GuideTexts.make(random);
                for (int i = 0; i < text.length(); i += 8) {
                    long w = random.nextLong();
                    int n = Math.min(8, text.length() - i);
                    for (int k = i; k < i + n; k++) {
                        w = w << 8 | text.charAt(k);
                    }
                    due("type", model.type(w, n), desk.type(w, n));
                }
                due("guide of '" + text + "'", model.guide(), desk.guide());
                break;
            }
            case 31: {
                long w = random.nextLong();
                int n = from1(8);
                due("type", model.type(w, n), desk.type(w, n));
                break;
            }
            default: {
                int what = to(1);
                due("why " + s + " " + what, model.why(s, what), desk.why(s, what));
                break;
            }
        }
    }

    private void thirdPart(int which) {
        int s = something();
        switch (which) {
            case 35:
                due("versions " + s, model.versions(s), desk.versions(s));
                break;
            case 36:
            case 37: {
                int i = to(Math.max(0, model.versions(s)));
                int what = to(1);
                due("version " + s + " " + i + " " + what, model.version(s, i, what), desk.version(s, i, what));
                break;
            }
            case 38:
            case 39:
                due("kin " + s, model.kin(s), desk.kin(s));
                break;
            case 40:
            case 41: {
                int place = to(places - 1);
                int hour = to(23);
                boolean isTold = random.nextInt(3) > 0;
                due("report", model.report(place, hour, isTold), desk.report(place, hour, isTold));
                break;
            }
            case 42:
                if (random.nextBoolean()) {
                    due("clear", model.clear(), desk.clear());
                }
                break;
            case 43:
            case 44: {
                int p = someone();
                int hour = to(23);
                due("could " + s + " " + p + " " + hour, model.could(s, p, hour), desk.could(s, p, hour));
                break;
            }
            case 45:
                if (random.nextInt(3) == 0) {
                    due("first " + s, model.first(s), desk.first(s));
                }
                break;
            case 46:
            case 47: {
                int k = from1(3);
                int what = to(1);
                due("posts " + k + " " + what, model.posts(k, what), desk.posts(k, what));
                break;
            }
            default:
                check(s);
                break;
        }
    }

    /** A row that is as it must be, at times but for one item. */
    private void check(int s) {
        int h = to(random.nextInt(4) == 0 ? 48 : 12);
        int lane = from1(2);
        int sheet = to(3);
        int i = to(6);
        if (random.nextInt(4) > 0) {
            int n = to(32);
            due("sheet", model.sheet(sheet, lane, n), desk.sheet(sheet, lane, n));
            for (int told = 0; told < 16; told++) {
                int first = model.check(s, h, sheet, lane, i);
                if (first < 0) {
                    break;
                }
                due("check", first, desk.check(s, h, sheet, lane, i));
                int state = random.nextInt(20) == 0 ? to(4) : stateThen(s, h, sheet, lane, i, first);
                due("item", model.item(sheet, lane, i + first, state), desk.item(sheet, lane, i + first, state));
            }
        }
        due("check " + s + " " + h + " " + i, model.check(s, h, sheet, lane, i), desk.check(s, h, sheet, lane, i));
    }

    private int stateThen(int s, int h, int sheet, int lane, int i, int person) {
        for (int state = 0; state < 3; state++) {
            model.item(sheet, lane, i + person, state);
            if (model.check(s, h, sheet, lane, i) != person) {
                return state;
            }
        }
        return 3;
    }

    private void sheets(int which) {
        int a = to(3);
        int b = to(3);
        int lane = to(2);
        switch (which) {
            case 50:
            case 51:
            case 52:
            case 53: {
                int n = to(32);
                due("sheet", model.sheet(a, lane, n), desk.sheet(a, lane, n));
                break;
            }
            case 54:
                due("drop " + a, model.drop(a), desk.drop(a));
                break;
            case 55:
            case 56:
            case 57:
            case 58: {
                int i = to(random.nextBoolean() ? 31 : 8);
                int v = random.nextInt(4) == 0 ? random.nextInt() : to(3);
                due("item", model.item(a, lane, i, v), desk.item(a, lane, i, v));
                break;
            }
            case 59:
            case 60:
            case 61: {
                int i = to(16);
                int j = to(16);
                int n = to(16);
                due("copy", model.copy(a, i, b, j, n), desk.copy(a, i, b, j, n));
                break;
            }
            default: {
                int i = to(10);
                due("reads " + a + " " + i, model.reads(a, i), desk.reads(a, i));
                break;
            }
        }
    }
}
