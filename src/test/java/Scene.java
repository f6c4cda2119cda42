import java.util.function.Supplier;

/** Desks to begin from, made anew each time by so few calls that a look at one stays within 512. */
enum Scene implements Supplier<RumourDesk> {
    /** A new object. */
    EMPTY(0, 0) {
        @Override
        public RumourDesk get() {
            return new RumourDesk();
        }
    },

    /** Some of everything, with room for more, at hour 60; sheet 3 holds nothing. */
    BUSY(10, 7) {
        @Override
        public RumourDesk get() {
            RumourDesk desk = withoutTape();
            Checks.write(desk, "w=3");
            return desk;
        }
    },

    /** As many of everything as there can be, at the last hour. */
    FULL(16, 8) {
        @Override
        public RumourDesk get() {
            RumourDesk desk = new RumourDesk();
            Checks.pass(desk, 9939);
            settle(desk, persons);
            spread(desk);
            desk.plain(5, 5, 5, 5);
            report(desk, 12);
            Checks.guide(desk, "w<3:h;t=0|p=4:d@1;n>7:s@416;w=9:d;!(w=9):h;w=5&t=5:s");
            Checks.write(desk, "w=1|".repeat(28) + "w=3:h @0");
            for (int sheet = 0; sheet < 4; sheet++) {
                fill(desk, sheet, sheet % 3, 32);
            }
            return desk;
        }
    };

    final int persons;
    final int sayings;

    Scene(int persons, int sayings) {
        this.persons = persons;
        this.sayings = sayings;
    }

    /** What is busy, but nothing has been typed since the guide. */
    static RumourDesk withoutTape() {
        RumourDesk desk = new RumourDesk();
        settle(desk, BUSY.persons);
        spread(desk);
        report(desk, 5);
        Checks.guide(desk, "w<3:h;t=0|p=4:d@1;n>7:s@2");
        for (int sheet = 0; sheet < 3; sheet++) {
            fill(desk, sheet, sheet, 20);
        }
        return desk;
    }

    /** Person 0 is always alone and never loud; the others meet. */
    private static void settle(RumourDesk desk, int persons) {
        desk.person(5, 5, 5, 0, 19);
        for (int p = 1; p < persons; p++) {
            desk.person(p % 3, p % 5, p % 2, p % 10, p);
            desk.set(p, 1, p % 5);
            desk.set(p, 2, p % 2);
        }
        desk.set(0, 2, 1);
    }

    /**
     * Sayings 0 to 6 of all kinds, 60 hours: person 0 has never heard 0, believes 1, doubts 2, forgot 3,
     * so that the items 0 to 3 of a row can be told from one another by checking it.
     */
    private static void spread(RumourDesk desk) {
        desk.plain(1, 2, 3, 4);
        desk.plain(9, 8, 7, 6);
        desk.plain(0, 0, 0, 0);
        desk.changed(0, 4, 9);
        desk.planted(1, 5000);
        desk.real(3, 2, 1, 0, true);
        desk.real(4, 4, 4, 4, false);
        desk.begin(0, 3);
        desk.begin(6, 3);
        desk.hours(50);
        desk.begin(3, 0);
        desk.begin(0, 1);
        desk.begin(4, 1);
        desk.begin(0, 2);
        desk.begin(8, 2);
        desk.deny(2, 0);
        desk.begin(7, 5);
        desk.deny(5, 0);
        desk.begin(9, 6);
        desk.hours(10);
    }

    /** Reports that agree with some beginnings and not with others, so that one more or less can be seen. */
    private static void report(RumourDesk desk, int number) {
        desk.report(1, 23, true);
        desk.report(4, 9, false);
        for (int i = 2; i < number; i++) {
            desk.report(5, 2 * i, false);
        }
    }

    private static void fill(RumourDesk desk, int sheet, int lane, int n) {
        desk.sheet(sheet, lane, n);
        for (int i = 0; i < 4; i++) {
            desk.item(sheet, lane, i, i);
        }
        desk.item(sheet, lane, n - 1, 2);
    }
}
