import java.util.function.Supplier;
import java.util.function.ToIntFunction;

/**
 * All that can be seen of a desk, as a text. Much of it can only be seen by changing something, and an
 * object is promised for 512 calls: so each part is asked of a desk of its own.
 */
final class Looks {
    private static final int PARTS = 12;

    static String of(Supplier<RumourDesk> start, ToIntFunction<RumourDesk> call) {
        StringBuilder all = new StringBuilder();
        for (int part = 0; part < PARTS; part++) {
            RumourDesk desk = start.get();
            call.applyAsInt(desk);
            look(desk, part, all);
            all.append('\n');
        }
        return all.toString();
    }

    private static void look(RumourDesk desk, int part, StringBuilder all) {
        switch (part) {
            case 0:
                sayings(desk, all);
                break;
            case 1:
                persons(desk, all);
                break;
            case 2:
            case 3:
            case 4:
            case 5:
                knowing(desk, 2 * part - 4, all);
                knowing(desk, 2 * part - 3, all);
                break;
            case 6:
                reports(desk, all);
                break;
            case 7:
                guide(desk, all);
                break;
            default:
                row(desk, part - 8, all);
                break;
        }
    }

    private static void add(StringBuilder all, int answer) {
        all.append(answer).append(' ');
    }

    private static void sayings(RumourDesk desk, StringBuilder all) {
        for (int what = 0; what <= 4; what++) {
            add(all, desk.count(what));
        }
        for (int s = 0; s < 8; s++) {
            for (int what = 0; what <= 8; what++) {
                add(all, desk.told(s, what));
            }
            add(all, desk.why(s, 0));
            add(all, desk.kin(s));
            add(all, desk.harm(s));
        }
        for (int k = 1; k <= 3; k++) {
            add(all, desk.posts(k, 0));
            add(all, desk.posts(k, 1));
        }
        add(all, desk.foretold(24));
        for (int what = 0; what <= 9; what++) {
            add(all, desk.weight(what, 0));
        }
    }

    private static void persons(RumourDesk desk, StringBuilder all) {
        for (int p = 0; p < 16; p++) {
            for (int hour = 7; hour <= 22; hour += 5) {
                add(all, desk.where(p, hour));
            }
            for (int what = 0; what <= 4; what++) {
                add(all, desk.set(p, what, 0));
            }
        }
    }

    private static void knowing(RumourDesk desk, int saying, StringBuilder all) {
        for (int p = 0; p < 16; p++) {
            for (int what = 0; what <= 4; what++) {
                add(all, desk.knows(p, saying, what));
            }
        }
    }

    private static void reports(RumourDesk desk, StringBuilder all) {
        for (int s = 0; s < 8; s++) {
            add(all, desk.first(s));
        }
        for (int hour = 0; hour < 24; hour++) {
            for (int p = 0; p < 8; p++) {
                add(all, desk.could(0, p, hour));
            }
        }
        add(all, desk.clear());
    }

    private static void guide(RumourDesk desk, StringBuilder all) {
        acts(desk, all);
        add(all, desk.type(' ', 1));
        add(all, desk.type(':' << 8 | 'd', 2));
        add(all, desk.guide());
        acts(desk, all);
    }

    private static void acts(RumourDesk desk, StringBuilder all) {
        for (int s = 0; s < 8; s++) {
            add(all, desk.why(s, 0));
            add(all, desk.why(s, 1));
        }
    }

    private static void row(RumourDesk desk, int sheet, StringBuilder all) {
        int lane = desk.check(0, 0, sheet, 1, 0) == RumourDesk.CAST ? 2 : 1;
        half(desk, sheet, lane, all);
        // What stands in the second half is seen only where a person's item can be.
        add(all, desk.copy(sheet, 16, sheet, 0, 16));
        add(all, desk.copy(sheet, 10, sheet, 0, 10));
        half(desk, sheet, lane, all);
        add(all, desk.drop(sheet));
    }

    private static void half(RumourDesk desk, int sheet, int lane, StringBuilder all) {
        add(all, desk.reads(sheet, 0));
        for (int p = 0; p < 16; p++) {
            add(all, desk.set(p, 2, 0));
        }
        for (int i = 0; i <= 16; i++) {
            for (int s = 0; s <= 3; s++) {
                add(all, desk.check(s, 0, sheet, lane, i));
            }
        }
    }

    private Looks() {
    }
}
