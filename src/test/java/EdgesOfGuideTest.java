/** Edges of the terms' third part and of promises 22 to 24: the tape, its faults, and clauses by days. */
public final class EdgesOfGuideTest {
    private static final Edges EDGES = new Edges();
    private static final String CLAUSE = "w=3:d";

    public static void main(String[] args) {
        tapeByteByByte();
        highestByteFirst();
        guideOf120Bytes();
        emptyTape();
        oneToSixClauses();
        everyDay();
        wrongNumbers();
        inForceFromTheDayOn();
        fiveOpenAtOnce();
        cutShort();
        wrongByteAnywhere();
        blanksAnywhere();
        blanksInANumber();
        blanksAheadOfAFault();
        oneNegation();
        digitsAtTheEnds();
        lastClauseOfAll();
        faultAndThenAnother();
        guideBehindGuide();
        EDGES.end();
    }

    private static void due(String call, long want, long got) {
        EDGES.due(call, want, got);
    }

    private static int read(String text) {
        return Checks.guide(new RumourDesk(), text);
    }

    /** "come behind THE TAPE: how many it has", from 1 to 120, and not one more. */
    private static void tapeByteByByte() {
        RumourDesk desk = new RumourDesk();
        for (int n = 1; n <= 120; n++) {
            due("byte " + n, n, desk.type(n % 2 == 0 ? 32 : 126, 1));
        }
        due("byte 121", Edges.FULL, desk.type(32, 1));
        due("byte 121 again", Edges.FULL, desk.type(126, 1));
        due("the first byte can't stand there", -20, desk.guide());
        due("the tape is empty then", 8, desk.type(0x2020202020202020L, 8));
    }

    /** "The n lowest bytes (1 .. 8) of w, of these the highest first": what is above them counts for nothing. */
    private static void highestByteFirst() {
        String text = "w=3:d@16";
        long[] above = {0, -1, Long.MIN_VALUE, Long.MAX_VALUE, 0x0102030405060708L};
        for (int n = 1; n <= 8; n++) {
            for (long more : above) {
                RumourDesk desk = new RumourDesk();
                desk.plain(3, 0, 0, 0);
                int typed = 0;
                for (int from = 0; from < 8; from += n) {
                    int to = Math.min(8, from + n);
                    long w = more;
                    for (int i = from; i < to; i++) {
                        w = w << 8 | text.charAt(i);
                    }
                    typed += to - from;
                    due("typed", typed, desk.type(w, to - from));
                }
                due("typed by " + n, 1, desk.guide());
                Checks.pass(desk, 24 * 16 - 1);
                due("not in force yet", Edges.NONE, desk.why(0, 0));
                desk.hours(1);
                due("in force", 0, desk.why(0, 0));
            }
        }
    }

    /** A tape that is just full is a guide as any other, and a fault in its last byte is at 119. */
    private static void guideOf120Bytes() {
        String text = "w=1|".repeat(28) + "w=3:h@00";
        due("its length", 120, text.length());
        RumourDesk desk = new RumourDesk();
        desk.plain(3, 0, 0, 0);
        due("one clause", 1, Checks.guide(desk, text));
        due("it holds by its last claim", 0, desk.why(0, 0));
        due("its act", 1, desk.why(0, 1));
        due("a fault in the last byte", -20 - 119, read(text.substring(0, 119) + "x"));
        due("a fault at the end", -20 - 120, read("w=1|".repeat(30)));
        due("all of it blank but the last", -20 - 119, read(" ".repeat(119) + "d"));
    }

    /** "(empty: none): how many CLAUSES": with no guide and with one. */
    private static void emptyTape() {
        RumourDesk desk = new RumourDesk();
        desk.plain(3, 0, 0, 0);
        due("no guide", 0, desk.guide());
        due("no clauses", 0, desk.count(2));
        due("a guide", 1, Checks.guide(desk, CLAUSE));
        due("a clause", 0, desk.why(0, 0));
        due("no guide any more", 0, desk.guide());
        due("no clauses any more", 0, desk.count(2));
        due("no clause any more", Edges.NONE, desk.why(0, 0));
    }

    /** "a TEXT of 1 to 6 CLAUSES with ; between"; "a seventh CLAUSE's ; can't". */
    private static void oneToSixClauses() {
        String text = "";
        for (int n = 1; n <= 6; n++) {
            text += n == 1 ? CLAUSE : ";" + CLAUSE;
            RumourDesk desk = new RumourDesk();
            desk.plain(3, 0, 0, 0);
            due(n + " clauses", n, Checks.guide(desk, text));
            due("counted", n, desk.count(2));
            due("the last of them", n - 1, desk.why(0, 0));
            int end = n == 6 ? text.length() : text.length() + 1;
            due(n + " clauses and ;", -20 - end, read(text + ";"));
            due("; ahead", -20, read(";" + text));
        }
        due("a seventh", -20 - 35, read(text + ";" + CLAUSE));
        due("a seventh behind a day", -20 - 39, read(text + "@416;" + CLAUSE));
        due("a seventh that is wrong", -20 - 35, read(text + ";x"));
        due("; alone", -20, read(";"));
    }

    /** "a DAY (0 .. 416)"; "of a number that is not as it may be its first byte". */
    private static void everyDay() {
        for (int day = 0; day <= 1000; day++) {
            due("day " + day, day <= 416 ? 1 : -20 - 6, read("w=3:d@" + day));
            due("day " + day + " of the second", day <= 416 ? 2 : -20 - 12, read("w=3:d;w=3:d@" + day));
            due("day " + day + " of the first", day <= 416 ? 2 : -20 - 6, read("w=3:d@" + day + ";w=3:d"));
        }
    }

    private static void wrongNumbers() {
        String[] wrong = {"417", "4160", "9999", "2147483647", "2147483648", "4294967296", "4294967712",
            "18446744073709551616", "9".repeat(100)};
        for (String number : wrong) {
            due("day " + number, -20 - 6, read("w=3:d@" + number));
            due("day " + number + " behind blanks", -20 - 8, read("w=3:d@  " + number));
            due("day " + number + " ahead of a wrong byte", -20 - 6, read("w=3:d@" + number + "x"));
        }
        due("no day", -20 - 6, read("w=3:d@"));
        due("no day behind blanks", -20 - 8, read("w=3:d@  "));
        due("no day, but ;", -20 - 6, read("w=3:d@;w=3:d"));
        due("below 0", -20 - 6, read("w=3:d@-1"));
        due("a wrong byte behind a day", -20 - 9, read("w=3:d@416x"));
        due("a day's day", -20 - 7, read("w=3:d@1@1"));
    }

    /** "from which it is in force (0)"; "in force on the DAY of NOW (NOW by 24)", "cut toward 0". */
    private static void inForceFromTheDayOn() {
        for (int day : new int[] {1, 2, 10, 100, 415, 416}) {
            RumourDesk desk = new RumourDesk();
            desk.plain(3, 0, 0, 0);
            due("two clauses", 2, Checks.guide(desk, "w=3:s;w=3:h@" + day));
            Checks.pass(desk, 24 * day - 1);
            due("the last hour ahead of day " + day, 0, desk.why(0, 0));
            due("its act", 2, desk.why(0, 1));
            desk.hours(1);
            due("the first hour of day " + day, 1, desk.why(0, 0));
            due("its act", 1, desk.why(0, 1));
            desk.hours(15);
            due("later on that day", 1, desk.why(0, 0));
        }
        RumourDesk first = new RumourDesk();
        first.plain(3, 0, 0, 0);
        Checks.guide(first, "w=3:d@0");
        due("day 0 from the first hour on", 0, first.why(0, 0));
        Checks.pass(first, 9999);
        due("to the last", 0, first.why(0, 0));
    }

    /** "a TEST in ( ) (5 open at once at most)". */
    private static void fiveOpenAtOnce() {
        for (int open = 0; open <= 8; open++) {
            String text = "(".repeat(open) + "w=3" + ")".repeat(open) + ":d";
            due(open + " open", open <= 5 ? 1 : -20 - 5, read(text));
            String negated = "!(".repeat(open) + "w=3" + ")".repeat(open) + ":d";
            due(open + " open, each negated", open <= 5 ? 1 : -20 - 11, read(negated));
            due(open + " that stay open", open <= 5 ? -21 - open : -20 - 5, read("(".repeat(open) + "w"));
            due("one more closed", open <= 5 ? -20 - 3 - 2 * open : -20 - 5,
                    read("(".repeat(open) + "w=3" + ")".repeat(open + 1) + ":d"));
        }
        due("five, and five again", 1, read("(((((w=3)))))&(((((w=3)))))|(((((w=3))))):d"));
        due("four closed, then four more open", 1, read("(((((w=3))))&((((w=3))))):d"));
        due("then five more", -20 - 17, read("(((((w=3))))&(((((w=3)))))):d"));
        due("five in the next clause", 2, read("(((((w=3))))):d;(((((w=3))))):d"));
        due("an open one behind !", -20 - 6, read("(((((!(w=3)))))):d"));
    }

    private static final String LONG = "!(w=3|t<5&n>7)&p=0:h@12;w>1:s;(t=9):d@416";

    /** "(the end: how many bytes there are)": each text that is cut too short, and with blanks behind. */
    private static void cutShort() {
        due("the whole", 3, read(LONG));
        for (int n = 1; n < LONG.length(); n++) {
            String cut = LONG.substring(0, n);
            int clauses = cut.split(";", -1).length;
            // What ends with an act, or with a day's digit behind one, is a guide already.
            boolean isWhole = cut.matches(".*:[dhs](@\\d+)?");
            due("'" + cut + "'", isWhole ? clauses : -20 - n, read(cut));
            due("'" + cut + "  '", isWhole ? clauses : -22 - n, read(cut + "  "));
        }
    }

    /** "the place of the first byte (behind blanks) that can't stand there": a byte that never can. */
    private static void wrongByteAnywhere() {
        for (int at = 0; at < LONG.length(); at++) {
            for (char wrong : new char[] {'~', 'x', 'W', '-', '"', '{'}) {
                String instead = LONG.substring(0, at) + wrong + LONG.substring(at + 1);
                due("'" + instead + "'", -20 - at, read(instead));
                String more = LONG.substring(0, at) + wrong + LONG.substring(at);
                due("'" + more + "'", -20 - at, read(more));
                String both = instead.substring(0, at + 1) + "~" + instead.substring(at + 1);
                due("'" + both + "': the first", -20 - at, read(both));
            }
        }
    }

    /** "bytes 32 count for nothing, but do not stand in a number". */
    private static void blanksAnywhere() {
        String acts = actsBy(LONG);
        due("all clauses are in use", 1, acts.contains("0") && acts.contains("1") && acts.contains("2") ? 1 : 0);
        for (int at = 0; at <= LONG.length(); at++) {
            for (int blanks = 1; blanks <= 3; blanks++) {
                String text = LONG.substring(0, at) + " ".repeat(blanks) + LONG.substring(at);
                boolean inNumber = at > 0 && at < LONG.length() && Character.isDigit(LONG.charAt(at - 1))
                    && Character.isDigit(LONG.charAt(at));
                due("'" + text + "'", inNumber ? -20 - at - blanks : 3, read(text));
                if (!inNumber) {
                    due("the same by '" + text + "'", 1, actsBy(text).equals(acts) ? 1 : 0);
                }
            }
        }
        due("a blank between any two", 1, read(" w = 3 & ( t < 5 ) : d @ 7 "));
    }

    /** Which clause is for each of eight sayings, on the last day. */
    private static String actsBy(String text) {
        RumourDesk desk = new RumourDesk();
        Checks.pass(desk, 9984);
        Checks.guide(desk, text);
        StringBuilder all = new StringBuilder();
        for (int s = 0; s < 8; s++) {
            desk.plain(s, 9 - s, 2 * s % 9, s / 2 % 2);
            all.append(desk.why(s, 0)).append(' ');
        }
        return all.toString();
    }

    private static void blanksInANumber() {
        due("4 16", -20 - 8, read("w=3:d@4 16"));
        due("41 6", -20 - 9, read("w=3:d@41 6"));
        due("0 0", -20 - 8, read("w=3:d@0 0"));
        due("4   1", -20 - 10, read("w=3:d@4   1"));
        due("417 behind a good one", -20 - 8, read("w=3:d@1 417"));
        due("417 ahead of blanks", -20 - 6, read("w=3:d@417 1"));
        due("a digit behind a digit", -20 - 3, read("w=33:d"));
        due("a digit behind a digit and a blank", -20 - 4, read("w=3 3:d"));
    }

    /** The fault is at the byte behind the blanks, not at the blanks. */
    private static void blanksAheadOfAFault() {
        for (int blanks = 0; blanks <= 10; blanks++) {
            String gap = " ".repeat(blanks);
            due("ahead of all", -20 - blanks, read(gap + "x"));
            due("ahead of a relation", -21 - blanks, read("w" + gap + "x"));
            due("ahead of a digit", -22 - blanks, read("w=" + gap + "x"));
            due("behind a claim", -23 - blanks, read("w=3" + gap + "x"));
            due("ahead of an act", -24 - blanks, read("w=3:" + gap + "x"));
            due("behind an act", -25 - blanks, read("w=3:d" + gap + "x"));
            due("ahead of a day", -26 - blanks, read("w=3:d@" + gap + "x"));
            due("behind a day", -27 - blanks, read("w=3:d@1" + gap + "x"));
            due("ahead of a clause", -26 - blanks, read("w=3:d;" + gap + "x"));
        }
    }

    /** "CLAIM: perhaps !": one at most, ahead of a part or of a test in brackets. */
    private static void oneNegation() {
        due("none", 1, read("w=3:d"));
        due("one", 1, read("!w=3:d"));
        due("two", -20 - 1, read("!!w=3:d"));
        due("two with a blank", -20 - 2, read("! !w=3:d"));
        due("one ahead of brackets and one in them", 1, read("!(!w=3):d"));
        due("two ahead of brackets", -20 - 1, read("!!(w=3):d"));
        due("one of nothing", -20 - 1, read("!:d"));
        due("no claim in brackets", -20 - 1, read("():d"));
    }

    /** "one of = < >, and a digit": for parts of 0 and of 9. */
    private static void digitsAtTheEnds() {
        for (int v = 0; v <= 9; v++) {
            for (int digit = 0; digit <= 9; digit++) {
                for (int part = 0; part < 4; part++) {
                    String name = "" + "wtnp".charAt(part);
                    RumourDesk desk = new RumourDesk();
                    int[] parts = {9 - v, 9 - v, 9 - v, 9 - v};
                    parts[part] = v;
                    desk.plain(parts[0], parts[1], parts[2], parts[3]);
                    due("a guide", 1, Checks.guide(desk, name + "=" + digit + ":d"));
                    due(v + " = " + digit, v == digit ? 0 : Edges.NONE, desk.why(0, 0));
                    due("another", 1, Checks.guide(desk, name + "<" + digit + ":d"));
                    due(v + " < " + digit, v < digit ? 0 : Edges.NONE, desk.why(0, 0));
                    due("a third", 1, Checks.guide(desk, name + ">" + digit + ":d"));
                    due(v + " > " + digit, v > digit ? 0 : Edges.NONE, desk.why(0, 0));
                }
            }
        }
    }

    /** "the last CLAUSE in force on the DAY of NOW whose TEST holds": the first, the last, any, none. */
    private static void lastClauseOfAll() {
        for (int holding = 0; holding < 64; holding++) {
            StringBuilder text = new StringBuilder();
            int last = Edges.NONE;
            for (int c = 0; c < 6; c++) {
                boolean holds = (holding >> c & 1) == 1;
                text.append(c == 0 ? "" : ";").append(holds ? "w=3:" : "w=4:").append("dhs".charAt(c % 3));
                last = holds ? c : last;
            }
            RumourDesk desk = new RumourDesk();
            desk.plain(3, 0, 0, 0);
            due("six clauses", 6, Checks.guide(desk, text.toString()));
            due("the clause of " + text, last, desk.why(0, 0));
            due("its act", last < 0 ? Edges.NONE : last % 3, desk.why(0, 1));
        }
    }

    /** "A FAULT (THE GUIDE stays)", however many come, and what was typed ahead of each is gone. */
    private static void faultAndThenAnother() {
        RumourDesk desk = new RumourDesk();
        desk.plain(3, 0, 0, 0);
        due("a guide", 2, Checks.guide(desk, "w=4:d;w=3:h"));
        for (int i = 0; i < 3; i++) {
            due("a fault at the end", -23, Checks.guide(desk, "w=3"));
            due("what is typed then stands alone", -20, Checks.guide(desk, ":d"));
            due("the guide stays", 1, desk.why(0, 0));
            due("with its clauses", 2, desk.count(2));
        }
        due("another guide", 1, Checks.guide(desk, "w=3:s"));
        due("its act", 2, desk.why(0, 1));
    }

    /** Nothing of a former guide, nor of a text with a fault behind whole clauses, is in the next one. */
    private static void guideBehindGuide() {
        RumourDesk desk = new RumourDesk();
        desk.plain(3, 0, 0, 0);
        for (int n = 1; n <= 24; n++) {
            int clauses = 1 + n % 6;
            String text = "w=3&t=1|n=0:d;".repeat(clauses - 1) + (n % 2 == 0 ? "w=3&t=1|n=1:s" : "w=3|t=1&n=1:s");
            due("guide " + n, clauses, Checks.guide(desk, text));
            due("its clauses", clauses, desk.count(2));
            due("the last that holds", n % 2 == 1 ? clauses - 1 : clauses > 1 ? clauses - 2 : Edges.NONE, desk.why(0, 0));
            if (n % 4 == 0) {
                due("a fault behind two", -20 - 12, Checks.guide(desk, "w=3:h;w=3:h;"));
                due("the guide stays", clauses, desk.count(2));
            }
        }
    }
}
