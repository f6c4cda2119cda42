import java.util.Random;

/** Texts for the guide: mostly right ones, at times with one byte wrong, missing or too much, or blanks alone. */
final class GuideTexts {
    private static final String SIGNS = "wtnp=<>0123456789&|!():;@dhs x~";

    static String make(Random random) {
        if (random.nextInt(40) == 0) {
            return " ".repeat(1 + random.nextInt(12));
        }
        StringBuilder text = new StringBuilder();
        int clauses = 1 + random.nextInt(random.nextInt(8) == 0 ? 8 : 4);
        int deepest = random.nextInt(random.nextInt(4) == 0 ? 7 : 3);
        for (int c = 0; c < clauses; c++) {
            text.append(c == 0 ? "" : ";");
            test(text, random, deepest);
            blank(text, random);
            text.append(':').append("dhs".charAt(random.nextInt(3)));
            if (random.nextInt(3) == 0) {
                text.append('@').append(random.nextInt(6) == 0 ? "00" : "");
                text.append(random.nextInt(random.nextInt(3) == 0 ? 430 : 8));
            }
        }
        for (int faults = random.nextInt(3) == 0 ? 1 + random.nextInt(2) : 0; faults > 0; faults--) {
            spoil(text, random);
        }
        return text.length() > 130 ? text.substring(0, 100 + random.nextInt(30)) : text.toString();
    }

    private static void blank(StringBuilder text, Random random) {
        if (random.nextInt(12) == 0) {
            text.append(' ');
        }
    }

    private static void test(StringBuilder text, Random random, int depth) {
        int claims = 1 + random.nextInt(3);
        for (int i = 0; i < claims; i++) {
            text.append(i == 0 ? "" : random.nextBoolean() ? "&" : "|");
            blank(text, random);
            text.append(random.nextInt(4) == 0 ? "!" : "");
            if (depth > 0 && random.nextInt(2) == 0) {
                text.append('(');
                test(text, random, depth - 1);
                text.append(')');
            } else {
                text.append("wtnp".charAt(random.nextInt(4)));
                blank(text, random);
                text.append("=<>".charAt(random.nextInt(3)));
                text.append(random.nextInt(10));
            }
        }
    }

    private static void spoil(StringBuilder text, Random random) {
        int at = random.nextInt(text.length());
        char sign = SIGNS.charAt(random.nextInt(SIGNS.length()));
        int how = random.nextInt(4);
        if (how == 0) {
            text.insert(at, sign);
        } else if (how == 1) {
            text.setCharAt(at, sign);
        } else if (how == 2 && text.length() > 1) {
            text.deleteCharAt(at);
        } else {
            text.setLength(Math.max(1, at));
        }
    }

    private GuideTexts() {
    }
}
