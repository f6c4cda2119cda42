/** Promises 22 to 24. */
public final class GuideTest {
    private static final int BAD = -1, FULL = -3, NONE = -4;
    private static final Checks CHECKS = new Checks();

    public static void main(String[] args) {
        type();
        faults();
        faultKeepsTheGuide();
        blanksAlone();
        tests();
        brackets();
        days();
        lastClause();
        whyWrongly();
        CHECKS.end();
    }

    private static void due(String call, long want, long got) {
        CHECKS.due(call, want, got);
    }

    private static void type() {
        RumourDesk desk = new RumourDesk();
        due("n 0", BAD, desk.type('w', 0));
        due("n 9", BAD, desk.type(0x7777777777777777L, 9));
        due("n -1", BAD, desk.type('w', -1));
        due("byte 31", BAD, desk.type(31, 1));
        due("byte 127", BAD, desk.type(127, 1));
        due("byte 0 ahead", BAD, desk.type('w', 2));
        due("a byte above 127", BAD, desk.type(-1L, 1));
        due("the last byte", BAD, desk.type(0x7777777777777707L, 8));
        due("higher bytes count for nothing", 1, desk.type(0x0077L, 1));
        due("nor do these", 3, desk.type(0xFF00000000003D33L, 2));
        due("then the rest", 5, desk.type(0x3A64, 2));
        due("w=3:d", 1, desk.guide());
        for (int n = 1; n <= 15; n++) {
            due("126 and 32", 8 * n, desk.type(0x7E7E7E7E20202020L, 8));
        }
        due("full", FULL, desk.type(' ', 1));
        due("BAD is ahead of FULL", BAD, desk.type(31, 1));
        due("120 bytes, the first is wrong", -20, desk.guide());
        Checks.write(desk, " ".repeat(117));
        due("beyond 120", FULL, desk.type(0x20202020L, 4));
        due("up to 120", 120, desk.type(0x202020L, 3));
    }

    private static void faults() {
        String[] wrong = {
            "w", "w=", "w=3", "w=3:", "w=3:d;", "w=3:d@", "w=3 ", "w=3:d@ ", "w=3:d ; ",
            "x", "W=3:d", "w3:d", "w==3:d", "w=a:d", "w=:d", "w=3d", "w=33:d", "w=3 3:d", "w=3:x",
            "w=3:dd", "w=3:d:d", "w=3:d@a", "w=3:d@-1", "w=3:d@417", "w=3:d@ 417", "w=3:d@999999999999",
            "w=3:d@4 1", "w=3:d@1x", "w=3:d@1@1", "w=3:d;;w=3:d", ";w=3:d", "w=3&:d", "w=3|:d", "w=3&|w=3:d",
            "!!w=3:d", "!:d", "()", "(w=3:d", "(w=3", "w=3):d", "(w=3)):d", "((((((w=3)))))):d",
            "(((((w=3&(w=3))))):d", "w!=3:d", "w=!3:d", "w=3!:d", "w>=3:d", "w=3:d@1;@", "& w=3:d", "w(=3)",
            "w=3:d@0000417", "~", "w=3:d@1,", "w=3:@1", "w=3:d w=3:d", "   x   "};
        int[] places = {
            1, 2, 3, 4, 6, 6, 4, 7, 8,
            0, 0, 1, 2, 2, 2, 3, 3, 4, 4,
            5, 5, 6, 6, 6, 7, 6,
            8, 7, 7, 6, 0, 4, 4, 4,
            1, 1, 1, 4, 4, 3, 5, 5,
            9, 1, 2, 3, 2, 8, 0, 1,
            6, 0, 7, 4, 6, 3};
        due("as many places as faults", wrong.length, places.length);
        for (int i = 0; i < wrong.length; i++) {
            due("guide of '" + wrong[i] + "'", -20 - places[i], Checks.guide(new RumourDesk(), wrong[i]));
        }
        String six = "w=3:d;w=3:d;w=3:d;w=3:d;w=3:d;w=3:d";
        due("six clauses", 6, Checks.guide(new RumourDesk(), six));
        due("a seventh", -20 - 35, Checks.guide(new RumourDesk(), six + ";w=3:d"));
        due("a seventh behind blanks", -20 - 37, Checks.guide(new RumourDesk(), six + "  ;w=3:d"));
    }

    private static void faultKeepsTheGuide() {
        RumourDesk desk = new RumourDesk();
        desk.plain(3, 5, 7, 1);
        due("two clauses", 2, Checks.guide(desk, "w=3:h;w=4:s"));
        due("a fault", -26, Checks.guide(desk, "w=3:d;"));
        due("the guide stays", 2, desk.count(2));
        due("and its act", 1, desk.why(0, 1));
        due("a longer one with a fault", -41, Checks.guide(desk, "w=9:d;w=9:d;w=9:d;w=9"));
        due("the guide still stays", 0, desk.why(0, 0));
        due("the tape is empty behind a fault", 1, desk.type('w', 1));
        desk.guide();
        due("no guide by an empty tape", 0, desk.guide());
        due("no clauses", 0, desk.count(2));
        due("no why", NONE, desk.why(0, 0));
        due("the tape is empty behind a guide", 1, Checks.guide(desk, "w=3:s"));
        due("one byte more", 1, desk.type('w', 1));
    }

    private static void blanksAlone() {
        for (int n = 1; n <= 120; n++) {
            RumourDesk desk = new RumourDesk();
            desk.plain(3, 5, 7, 1);
            Checks.guide(desk, "w=3:h;w=3:s");
            due(n + " blanks", 0, Checks.guide(desk, " ".repeat(n)));
            due("no clauses", 0, desk.count(2));
            due("no clause in force", NONE, desk.why(0, 0));
            due("no act", NONE, desk.why(0, 1));
            due("the tape is empty behind them", 1, desk.type('w', 1));
        }
        due("blanks round a guide", 1, Checks.guide(new RumourDesk(), "  w=3:d  "));
        due("blanks where a clause is due", -20 - 8, Checks.guide(new RumourDesk(), "w=3:d;  "));
        due("blanks ahead of a wrong byte", -20 - 2, Checks.guide(new RumourDesk(), "  ;"));
        due("blanks in brackets", -20 - 3, Checks.guide(new RumourDesk(), "(  ):d"));
    }

    /** Whether a test holds for the parts 3 5 7 1. */
    private static void holds(String test, boolean want) {
        RumourDesk desk = new RumourDesk();
        desk.plain(3, 5, 7, 1);
        due("guide of " + test, 1, Checks.guide(desk, test + ":d"));
        due(test, want ? 0 : NONE, desk.why(0, 0));
    }

    private static void tests() {
        int[] parts = {3, 5, 7, 1};
        for (int p = 0; p < 4; p++) {
            for (int digit = 0; digit <= 9; digit++) {
                holds("" + "wtnp".charAt(p) + '=' + digit, parts[p] == digit);
                holds("" + "wtnp".charAt(p) + '<' + digit, parts[p] < digit);
                holds("" + "wtnp".charAt(p) + '>' + digit, parts[p] > digit);
                holds("!" + "wtnp".charAt(p) + '=' + digit, parts[p] != digit);
            }
        }
        // y holds, n does not: all tests of three claims, with & ahead of |.
        for (int values = 0; values < 8; values++) {
            boolean a = (values & 1) != 0;
            boolean b = (values & 2) != 0;
            boolean c = (values & 4) != 0;
            String x = a ? "w=3" : "w=4";
            String y = b ? "t>4" : "t<4";
            String z = c ? "!n=0" : "!n=7";
            holds(x + "&" + y + "&" + z, a && b && c);
            holds(x + "|" + y + "|" + z, a || b || c);
            holds(x + "&" + y + "|" + z, a && b || c);
            holds(x + "|" + y + "&" + z, a || b && c);
            holds("(" + x + "|" + y + ")&" + z, (a || b) && c);
            holds(x + "&(" + y + "|" + z + ")", a && (b || c));
            holds("!(" + x + "&" + y + ")|" + z, !(a && b) || c);
            holds("!" + x + "&!(" + y + "|!(" + z + "))", !a && !(b || !c));
        }
    }

    private static void brackets() {
        holds("(((((w=3)))))", true);
        holds("!(!(!(!(!(w=3)))))", false);
        holds("(w=3)&(((((w=3)))))|((((w=4))))", true);
        holds("w=4|w=4&(w=4|w=4&(w=4|w=4&(w=4|w=4&(w=4|w=4&(w=4)))))", false);
        holds("w=4|w=3&(w=4|w=3&(w=4|w=3&(w=4|w=3&(w=4|w=3&(w=3)))))", true);
        holds(" ( ( w = 3 ) & ! ( t = 0 ) ) ", true);
    }

    private static void days() {
        RumourDesk desk = new RumourDesk();
        desk.plain(3, 5, 7, 1);
        due("in force by days", 3, Checks.guide(desk, "w=3:d; w=3:h @ 1; w=3:s@2"));
        due("day 0", 0, desk.why(0, 0));
        desk.hours(23);
        due("the last hour of day 0", 0, desk.why(0, 0));
        desk.hours(1);
        due("day 1", 1, desk.why(0, 0));
        desk.hours(24);
        due("day 2", 2, desk.why(0, 0));
        due("its act", 2, desk.why(0, 1));
        due("zeros ahead of a number", 1, Checks.guide(desk, "w=3:d@0000000000000000000002"));
        due("is in force", 0, desk.why(0, 0));
        due("the last day", 1, Checks.guide(desk, "w=3:d@416"));
        due("is far off", NONE, desk.why(0, 0));
        Checks.pass(desk, 9983 - 48);
        due("9983 is day 415", NONE, desk.why(0, 0));
        desk.hours(1);
        due("9984 is day 416", 0, desk.why(0, 0));
    }

    private static void lastClause() {
        RumourDesk desk = new RumourDesk();
        desk.plain(3, 5, 7, 1);
        desk.plain(4, 5, 7, 1);
        desk.plain(9, 9, 9, 9);
        Checks.guide(desk, "w=3:s;t=5:d;w=4:h@9;w=3&p=1:h;w=8:s;t=0:d");
        due("the last that holds", 3, desk.why(0, 0));
        due("its act", 1, desk.why(0, 1));
        due("one that is in force", 1, desk.why(1, 0));
        due("its act, too", 0, desk.why(1, 1));
        due("none holds", NONE, desk.why(2, 0));
        due("no act", NONE, desk.why(2, 1));
    }

    private static void whyWrongly() {
        RumourDesk desk = new RumourDesk();
        due("no saying", BAD, desk.why(0, 0));
        desk.plain(3, 5, 7, 1);
        due("what 2", BAD, desk.why(0, 2));
        due("what -1", BAD, desk.why(0, -1));
        due("saying 1", BAD, desk.why(1, 0));
        due("no guide", NONE, desk.why(0, 0));
    }
}
