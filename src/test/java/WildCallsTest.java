import java.lang.reflect.InvocationTargetException;
import java.lang.reflect.Method;
import java.lang.reflect.Modifier;

/**
 * Every call with numbers far from what is told: none throws, and what answers below 0 changes nothing.
 * A second desk gets only the calls that were answered with 0 or more, and must look the same at the end.
 */
public final class WildCallsTest {
    private static final int[] WILD = {Integer.MIN_VALUE, -1, 0, 1, 3, 40, 100000, Integer.MAX_VALUE};
    private static final Checks CHECKS = new Checks();

    public static void main(String[] args) throws IllegalAccessException {
        for (Method call : RumourDesk.class.getDeclaredMethods()) {
            // guide() answers below 0 by a fault, and the tape is empty then, as told.
            if (Modifier.isPublic(call.getModifiers()) && !call.getName().equals("guide")) {
                wild(call, false);
                wild(call, true);
            }
        }
        CHECKS.end();
    }

    private static void wild(Method call, boolean isFull) throws IllegalAccessException {
        RumourDesk one = isFull ? fullDesk() : new RumourDesk();
        RumourDesk other = isFull ? fullDesk() : new RumourDesk();
        int parameters = call.getParameterCount();
        int[] chosen = new int[parameters];
        for (long n = 0; n < Math.pow(WILD.length, parameters); n++) {
            long rest = n;
            for (int i = 0; i < parameters; i++) {
                chosen[i] = WILD[(int) (rest % WILD.length)];
                rest /= WILD.length;
            }
            int answer = answerOf(call, one, chosen);
            if (answer >= 0) {
                CHECKS.due(call.getName() + " again", answer, answerOf(call, other, chosen));
            }
        }
        String looks = looksOf(one);
        CHECKS.due(call.getName() + " changed what it refused: " + looks, 1, looks.equals(looksOf(other)) ? 1 : 0);
    }

    private static int answerOf(Method call, RumourDesk desk, int[] chosen) throws IllegalAccessException {
        Object[] arguments = new Object[chosen.length];
        Class<?>[] types = call.getParameterTypes();
        for (int i = 0; i < chosen.length; i++) {
            arguments[i] = types[i] == boolean.class ? (Object) (chosen[i] > 0)
                : types[i] == long.class ? (Object) (long) chosen[i] : (Object) chosen[i];
        }
        try {
            return (Integer) call.invoke(desk, arguments);
        } catch (InvocationTargetException e) {
            CHECKS.due(call.getName() + " threw " + e.getCause(), 0, 1);
            return 0;
        }
    }

    /** Persons, sayings and reports as many as can be, a guide, a tape and rows of each lane. */
    private static RumourDesk fullDesk() {
        RumourDesk desk = new RumourDesk();
        for (int p = 0; p < 16; p++) {
            desk.person(p % 3, p % 6, p % 2, p % 10, p);
            desk.set(p, 1, p % 5);
            desk.set(p, 2, p % 2);
        }
        for (int s = 0; s < 4; s++) {
            desk.plain(s, 2 * s, 3, 4);
            desk.begin(3 * s, s);
        }
        desk.changed(0, 4, 9);
        desk.planted(1, 5000);
        desk.real(1, 2, 3, 4, true);
        desk.real(1, 2, 3, 4, false);
        for (int i = 0; i < 12; i++) {
            desk.report(i % 6, 2 * i, i % 3 == 0);
        }
        desk.hours(30);
        desk.deny(6, 0);
        Checks.guide(desk, "w<3:h;t=0|p=4:d@1");
        Checks.write(desk, "w=3");
        for (int lane = 0; lane <= 2; lane++) {
            desk.sheet(lane, lane, 20);
            desk.item(lane, lane, 2, 1);
        }
        return desk;
    }

    /** All that can be asked without a change, and then what only a change tells. */
    private static String looksOf(RumourDesk desk) {
        StringBuilder all = new StringBuilder();
        for (int s = 0; s < 8; s++) {
            for (int what = 0; what <= 8; what++) {
                all.append(desk.told(s, what)).append(' ');
            }
            for (int p = 0; p < 16; p++) {
                for (int what = 0; what <= 4; what++) {
                    all.append(desk.knows(p, s, what)).append(' ');
                }
            }
            all.append(desk.first(s)).append(' ').append(desk.kin(s)).append(' ').append(desk.why(s, 0)).append('\n');
        }
        for (int what = 0; what <= 4; what++) {
            all.append(desk.count(what)).append(' ');
            for (int p = 0; p < 16; p++) {
                all.append(desk.where(p, 8 * what)).append(' ').append(desk.set(p, what, 0)).append(' ');
            }
        }
        for (int what = 0; what <= 9; what++) {
            all.append(desk.weight(what, 5)).append(' ');
        }
        for (int sheet = 0; sheet < 4; sheet++) {
            all.append(desk.reads(sheet, 0)).append(' ').append(desk.check(0, 0, sheet, 1, 0)).append(' ')
                .append(desk.check(0, 0, sheet, 2, 0)).append(' ').append(desk.drop(sheet)).append(' ');
        }
        return all.append(desk.type(' ', 1)).append(' ').append(desk.guide()).toString();
    }
}
