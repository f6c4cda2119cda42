import java.util.Arrays;

/** Edges of the terms' first part and of promises 1 to 13: the first, the last, and round again. */
public final class EdgesOfPersonsTest {
    private static final Edges EDGES = new Edges();

    public static void main(String[] args) {
        nothingAtFirst();
        personsAsTheyCome();
        traitsKeptApart();
        sayingsAsTheyCome();
        zeroBehindNine();
        roundAgainByTenTellings();
        placesByTheDay();
        weightsAtFirst();
        changedAtTheEnds();
        plantedAtTheEnds();
        fromWithoutWhateverWas();
        byWhom();
        lastCallThatIsPromised();
        EDGES.end();
    }

    private static void due(String call, long want, long got) {
        EDGES.due(call, want, got);
    }

    /** "Nobody, no SAYINGS, no GUIDE"; "NOW is an hour (.. 0 at first)"; "SHEETS hold nothing (at first)". */
    private static void nothingAtFirst() {
        RumourDesk desk = new RumourDesk();
        for (int what = 0; what <= 4; what++) {
            due("count " + what + " at first", 0, desk.count(what));
        }
        for (int sheet = 0; sheet <= 3; sheet++) {
            due("sheet " + sheet + " at first", Edges.NULL, desk.drop(sheet));
        }
        due("no report to clear", 0, desk.clear());
        due("nothing is foretold", 0, desk.foretold(0));
        due("nothing to plan", 0, desk.plan(0, 0));
        due("the tape is empty: no guide", 0, desk.guide());
        due("the first byte", 1, desk.type(' ', 1));
        due("the first person", 0, desk.person(0, 0, 0, 0, 0));
        due("the first saying", 0, desk.plain(0, 0, 0, 0));
        due("who has never heard it", 0, desk.knows(0, 0, 0));
        due("the first report", 0, desk.report(0, 0, true));
        due("the first hour", 1, desk.hours(1));
    }

    /** "PERSONS 0 .. 15, as they come"; "the number (TRUST 50, no HABIT, READS not)". */
    private static void personsAsTheyCome() {
        RumourDesk desk = new RumourDesk();
        for (int p = 0; p < 16; p++) {
            due("person " + p, p, desk.person(p % 6, (p + 1) % 6, (p + 2) % 6, p % 10, p + 4));
            due("persons", p + 1, desk.count(0));
            due("not one more yet", Edges.BAD, desk.where(p + 1, 0));
        }
        for (int p = 0; p < 16; p++) {
            due("home of " + p, p % 6, desk.where(p, 0));
            due("work of " + p, (p + 1) % 6, desk.where(p, 8));
            due("bar of " + p, (p + 2) % 6, desk.where(p, 18));
            int[] traits = {50, 0, 0, p % 10, p + 4};
            for (int what = 0; what <= 4; what++) {
                due("trait " + what + " of " + p, traits[what], desk.set(p, what, 0));
            }
        }
    }

    /** "TRUST (0), HABIT (1), whether one READS (2; 0, 1), FEAR (3), DOUBT (4) of a PERSON: what it was." */
    private static void traitsKeptApart() {
        int[] tops = {99, 4, 1, 9, 19};
        for (int what = 0; what <= 4; what++) {
            for (int v = 0; v <= tops[what]; v++) {
                RumourDesk desk = new RumourDesk();
                Checks.settle(desk, 3, 0, 0, 0);
                for (int each = 0; each <= 4; each++) {
                    desk.set(1, each, 1);
                }
                due("it was", 1, desk.set(1, what, v));
                for (int each = 0; each <= 4; each++) {
                    due("trait " + each, each == what ? v : 1, desk.set(1, each, 0));
                    due("of the one ahead", each == 0 ? 50 : 0, desk.set(0, each, 0));
                    due("of the one behind", each == 0 ? 50 : 0, desk.set(2, each, 0));
                }
            }
        }
    }

    /** "SAYINGS 0 .. 7, as they come, are of KINDS": whatever the kinds, they have one count. */
    private static void sayingsAsTheyCome() {
        RumourDesk desk = new RumourDesk();
        for (int s = 0; s < 8; s += 4) {
            due("plain", s, desk.plain(s, 0, 0, 9));
            due("changed", s + 1, desk.changed(s, 2, 9));
            due("planted", s + 2, desk.planted(s + 1, 9999 - s));
            due("true", s + 3, desk.real(9, 9, 9, 9, s == 0));
        }
        due("not one more", Edges.FULL, desk.plain(0, 0, 0, 0));
        for (int s = 0; s < 8; s++) {
            due("kind of " + s, s % 4, desk.told(s, 0));
            due("no denials of " + s, 0, desk.told(s, 8));
        }
        for (int s = 0; s < 8; s += 4) {
            due("of which the changed one is", s, desk.told(s + 1, 5));
            due("of which the planted one is", s + 1, desk.told(s + 2, 5));
            due("its hour", 9999 - s, desk.told(s + 2, 6));
            due("whether the true one may be told", s == 0 ? 1 : 0, desk.told(s + 3, 7));
        }
        due("parts of a planted one of a changed one", 9, desk.told(6, 2));
        due("no saying 8", Edges.BAD, desk.told(8, 0));
        due("sayings", 8, desk.count(1));
    }

    /** "of what they tell on part 1 .. 4 is one more, 0 behind 9": no other part changes with it. */
    private static void zeroBehindNine() {
        int[] units = {1000, 100, 10, 1};
        for (int others = 0; others <= 9; others += 9) {
            for (int part = 1; part <= 4; part++) {
                for (int digit = 0; digit <= 9; digit++) {
                    int unit = units[part - 1];
                    int rest = 1111 * others - unit * others;
                    int start = rest + digit * unit;
                    RumourDesk desk = new RumourDesk();
                    Checks.settle(desk, 2, 0, 9, 0);
                    desk.plain(start / 1000, start / 100 % 10, start / 10 % 10, start % 10);
                    desk.set(0, 1, part);
                    desk.begin(0, 0);
                    desk.hours(1);
                    due(start + " told on", rest + (digit + 1) % 10 * unit, desk.knows(1, 0, 2));
                    due("the teller's own", start, desk.knows(0, 0, 2));
                }
            }
        }
    }

    private static void roundAgainByTenTellings() {
        int[] units = {1000, 100, 10, 1};
        for (int part = 1; part <= 4; part++) {
            for (int tellings = 1; tellings <= 12; tellings++) {
                int[] habits = new int[tellings];
                Arrays.fill(habits, part);
                RumourDesk desk = Checks.withOneWhoKnows();
                int last = Checks.teach(desk, 0, habits);
                due(tellings + " tellings", tellings % 10 * units[part - 1], desk.knows(last, 0, 2));
            }
        }
    }

    /** "at WORK, if it is 8 .. 17 of the day (modulo 24), at the BAR at 18 .. 21, HOME else", whatever NOW is. */
    private static void placesByTheDay() {
        for (int day = 0; day <= 416; day++) {
            RumourDesk desk = new RumourDesk();
            desk.person(5, 3, 1, 0, 0);
            for (int ofDay = 0; ofDay < 24; ofDay++) {
                int hour = 24 * day + ofDay;
                int place = ofDay <= 7 ? 5 : ofDay <= 17 ? 3 : ofDay <= 21 ? 1 : 5;
                due("where at " + hour, hour > 9999 ? Edges.BAD : place, desk.where(0, hour));
            }
            if (day <= 1) {
                desk.hours(8 + 10 * day);
                due("at home, asked from elsewhere", 5, desk.where(0, 7));
            }
        }
    }

    /** "WEIGHT of a what: 0 .. 9 (5 at first)": each what has its own. */
    private static void weightsAtFirst() {
        RumourDesk desk = new RumourDesk();
        for (int what = 0; what <= 9; what++) {
            due("weight of " + what + " at first", 5, desk.weight(what, what));
        }
        for (int what = 9; what >= 0; what--) {
            due("weight of " + what, what, desk.weight(what, 9 - what));
        }
        for (int what = 0; what <= 9; what++) {
            due("weight of " + what + " then", 9 - what, desk.weight(what, 0));
        }
    }

    /** Promise 6: the first part and the last, to the least and the most. */
    private static void changedAtTheEnds() {
        for (int part = 1; part <= 4; part++) {
            for (int v = 0; v <= 9; v += 9) {
                RumourDesk desk = new RumourDesk();
                desk.plain(9 - v, 9 - v, 9 - v, 9 - v);
                due("changed", 1, desk.changed(0, part, v));
                for (int each = 1; each <= 4; each++) {
                    due("part " + each, each == part ? v : 9 - v, desk.told(1, each));
                    due("part " + each + " of the first", 9 - v, desk.told(0, each));
                }
                due("changed back", 2, desk.changed(1, part, 9 - v));
                due("as it is", Edges.NOT, desk.changed(2, part, 9 - v));
            }
        }
    }

    /** Promise 7: "from an hour on", the first and the last. */
    private static void plantedAtTheEnds() {
        RumourDesk desk = new RumourDesk();
        desk.plain(0, 9, 0, 9);
        due("from hour 0", 1, desk.planted(0, 0));
        due("from hour 9999", 2, desk.planted(1, 9999));
        due("hour 0", 0, desk.told(1, 6));
        due("hour 9999", 9999, desk.told(2, 6));
        due("of the first", 0, desk.told(1, 5));
        due("of a planted one", 1, desk.told(2, 5));
        int[] parts = {0, 9, 0, 9};
        for (int part = 1; part <= 4; part++) {
            due("part " + part, parts[part - 1], desk.told(2, part));
        }
    }

    /** "From without one BELIEVES it from then on, with its PARTS, whatever was." */
    private static void fromWithoutWhateverWas() {
        int[] versions = {1234, 9876, 0, 1239};
        for (Scene scene : new Scene[] {Scene.BUSY, Scene.FULL}) {
            for (int s = 0; s <= 3; s++) {
                RumourDesk desk = scene.get();
                int now = desk.count(4);
                due("the state that was", s, desk.begin(0, s));
                int[] want = {1, now, versions[s], 17, now};
                for (int what = 0; what <= 4; what++) {
                    due("knows " + what + " of " + s, want[what], desk.knows(0, s, what));
                }
                due("it believes now", 1, desk.begin(0, s));
            }
        }
        RumourDesk desk = Checks.withOneWhoKnows();
        int taught = Checks.teach(desk, 0, 4);
        due("another version", 1, desk.knows(taught, 0, 2));
        due("it believes", 1, desk.begin(taught, 0));
        due("its parts again", 0, desk.knows(taught, 0, 2));
        due("from without", 17, desk.knows(taught, 0, 3));
    }

    /** "by whom (a PERSON; 16 the paper, 17 from without)": the first and the last person, too. */
    private static void byWhom() {
        for (int teller = 0; teller <= 15; teller++) {
            RumourDesk desk = new RumourDesk();
            Checks.settle(desk, 16, 0, 0, 0);
            desk.plain(1, 1, 1, 1);
            desk.set(teller, 3, 2);
            desk.begin(teller, 0);
            desk.hours(1);
            for (int p = 0; p <= 15; p++) {
                due("by whom " + p + " knows", p == teller ? 17 : teller, desk.knows(p, 0, 3));
            }
        }
        RumourDesk desk = new RumourDesk();
        Checks.settle(desk, 1, 0, 0, 0);
        desk.plain(1, 1, 1, 1);
        desk.set(0, 2, 1);
        desk.deny(0, 1);
        due("by the paper", 16, desk.knows(0, 0, 3));
    }

    /** "An object is used for at most 512 calls": the last of them is answered as any other. */
    private static void lastCallThatIsPromised() {
        RumourDesk desk = new RumourDesk();
        desk.person(0, 1, 2, 9, 0);
        desk.plain(1, 2, 3, 4);
        desk.begin(0, 0);
        for (int call = 4; call <= 511; call++) {
            due("call " + call, 5, desk.harm(0));
        }
        due("call 512", 96, desk.hours(96));
    }
}
