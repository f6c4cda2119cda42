/** What the project's tests share: it tells every answer that is not due, and counts them. */
final class Checks {
    private int wrong;
    private int made;

    void due(String call, long want, long got) {
        made++;
        if (got != want) {
            wrong++;
            System.out.println(call + " answered " + got + ", due is " + want);
        }
    }

    /** Ends the test: with exit code 1, if an answer was not due. */
    void end() {
        System.out.println(made + " answers looked at, " + wrong + " not as due");
        if (wrong != 0 || made == 0) {
            System.exit(1);
        }
    }

    /** Types a text of any length; blanks and other signs as they are. */
    static void write(RumourDesk desk, String text) {
        for (int from = 0; from < text.length(); from += 8) {
            int to = Math.min(text.length(), from + 8);
            long w = 0;
            for (int i = from; i < to; i++) {
                w = w << 8 | text.charAt(i);
            }
            desk.type(w, to - from);
        }
    }

    static int guide(RumourDesk desk, String text) {
        write(desk, text);
        return desk.guide();
    }

    /** Persons who are always at one place, with a fear and a doubt. */
    static void settle(RumourDesk desk, int number, int place, int fear, int doubt) {
        for (int i = 0; i < number; i++) {
            desk.person(place, place, place, fear, doubt);
        }
    }

    /** Lets many hours pass, 96 at most a call. */
    static void pass(RumourDesk desk, int hours) {
        for (int left = hours; left > 0; left -= 96) {
            desk.hours(Math.min(left, 96));
        }
    }

    /** A desk with saying 0, all parts 0, that person 0 believes; nobody is loud. */
    static RumourDesk withOneWhoKnows() {
        RumourDesk desk = new RumourDesk();
        desk.person(0, 0, 0, 0, 0);
        desk.plain(0, 0, 0, 0);
        desk.begin(0, 0);
        return desk;
    }

    /** A new person takes saying 0 from one teller alone, changed by habits in turn. */
    static int teach(RumourDesk desk, int teller, int... habits) {
        int from = teller;
        for (int i = 0; i < habits.length; i++) {
            desk.set(from, 3, 9);
            desk.set(from, 1, habits[i]);
            int taught = desk.person(0, 0, 0, 0, 0);
            desk.hours(1);
            desk.set(from, 3, 0);
            if (i > 0) {
                desk.begin(from, 0);
            }
            from = taught;
        }
        return from;
    }
}
