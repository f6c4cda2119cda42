import java.util.ArrayList;
import java.util.Arrays;
import java.util.List;
import java.util.TreeSet;

/**
 * The document once more, in the plainest way and without any care for speed: everything by lists and
 * whole copies, plans by all subsets, the guide by looking at its text each time. ModelTest holds the
 * class against it.
 */
final class Model {
    static final class Person {
        int[] places;
        int trust = 50, habit, reads, fear, doubt;

        int at(int hour) {
            int h = hour % 24;
            if (h >= 8 && h <= 17) {
                return places[1];
            }
            return h >= 18 && h <= 21 ? places[2] : places[0];
        }
    }

    static final class Knowing {
        int state, since, by, latest;
        int[] version = new int[4];

        Knowing again() {
            Knowing k = new Knowing();
            k.state = state;
            k.since = since;
            k.by = by;
            k.latest = latest;
            k.version = version.clone();
            return k;
        }
    }

    static final class Saying {
        int kind, of, hour, denials;
        boolean may;
        int[] parts;
        List<Knowing> known = new ArrayList<>();
    }

    final List<Person> persons = new ArrayList<>();
    final List<Saying> sayings = new ArrayList<>();
    final int[] weights = {5, 5, 5, 5, 5, 5, 5, 5, 5, 5};
    final List<int[]> reports = new ArrayList<>();
    String tape = "";
    List<String> clauses = new ArrayList<>();
    int now;
    final Object[] rows = new Object[4];

    private static boolean in(int v, int low, int high) {
        return low <= v && v <= high;
    }

    private boolean someone(int p) {
        return in(p, 0, persons.size() - 1);
    }

    private boolean something(int s) {
        return in(s, 0, sayings.size() - 1);
    }

    int person(int home, int work, int bar, int fear, int doubt) {
        if (!in(home, 0, 5) || !in(work, 0, 5) || !in(bar, 0, 5) || !in(fear, 0, 9) || !in(doubt, 0, 19)) {
            return -1;
        }
        if (persons.size() == 16) {
            return -3;
        }
        Person p = new Person();
        p.places = new int[] {home, work, bar};
        p.fear = fear;
        p.doubt = doubt;
        persons.add(p);
        for (Saying s : sayings) {
            s.known.add(new Knowing());
        }
        return persons.size() - 1;
    }

    int set(int person, int what, int v) {
        if (!someone(person) || !in(what, 0, 4)) {
            return -1;
        }
        Person p = persons.get(person);
        int was;
        if (what == 0 && in(v, 0, 99)) {
            was = p.trust;
            p.trust = v;
        } else if (what == 1 && in(v, 0, 4)) {
            was = p.habit;
            p.habit = v;
        } else if (what == 2 && in(v, 0, 1)) {
            was = p.reads;
            p.reads = v;
        } else if (what == 3 && in(v, 0, 9)) {
            was = p.fear;
            p.fear = v;
        } else if (what == 4 && in(v, 0, 19)) {
            was = p.doubt;
            p.doubt = v;
        } else {
            was = -1;
        }
        return was;
    }

    int where(int person, int hour) {
        return someone(person) && in(hour, 0, 9999) ? persons.get(person).at(hour) : -1;
    }

    private Saying saying(int kind, int... parts) {
        Saying s = new Saying();
        s.kind = kind;
        s.parts = parts;
        for (int p = 0; p < persons.size(); p++) {
            s.known.add(new Knowing());
        }
        return s;
    }

    private int come(Saying s) {
        if (sayings.size() == 8) {
            return -3;
        }
        sayings.add(s);
        return sayings.size() - 1;
    }

    int plain(int who, int what, int many, int where) {
        for (int part : new int[] {who, what, many, where}) {
            if (!in(part, 0, 9)) {
                return -1;
            }
        }
        return come(saying(0, who, what, many, where));
    }

    int changed(int saying, int part, int v) {
        if (!something(saying) || !in(part, 1, 4) || !in(v, 0, 9)) {
            return -1;
        }
        int[] parts = sayings.get(saying).parts.clone();
        if (parts[part - 1] == v) {
            return -2;
        }
        parts[part - 1] = v;
        Saying s = saying(1, parts);
        s.of = saying;
        return come(s);
    }

    int planted(int saying, int hour) {
        if (!something(saying) || !in(hour, 0, 9999)) {
            return -1;
        }
        Saying s = saying(2, sayings.get(saying).parts.clone());
        s.of = saying;
        s.hour = hour;
        return come(s);
    }

    int real(int who, int what, int many, int where, boolean may) {
        for (int part : new int[] {who, what, many, where}) {
            if (!in(part, 0, 9)) {
                return -1;
            }
        }
        Saying s = saying(3, who, what, many, where);
        s.may = may;
        return come(s);
    }

    int told(int saying, int what) {
        if (!something(saying) || !in(what, 0, 8)) {
            return -1;
        }
        Saying s = sayings.get(saying);
        if (what == 0) {
            return s.kind;
        } else if (what <= 4) {
            return s.parts[what - 1];
        } else if (what == 5) {
            return s.kind == 1 || s.kind == 2 ? s.of : -12;
        } else if (what == 6) {
            return s.kind == 2 ? s.hour : -12;
        } else if (what == 7) {
            return s.kind == 3 ? (s.may ? 1 : 0) : -12;
        }
        return s.denials;
    }

    int weight(int what, int v) {
        if (!in(what, 0, 9) || !in(v, 0, 9)) {
            return -1;
        }
        int was = weights[what];
        weights[what] = v;
        return was;
    }

    int begin(int person, int saying) {
        if (!someone(person) || !something(saying)) {
            return -1;
        }
        Saying s = sayings.get(saying);
        if (s.kind == 2 && s.hour > now) {
            return -2;
        }
        int was = s.known.get(person).state;
        s.known.set(person, fromWithout(s, now));
        return was;
    }

    private static Knowing fromWithout(Saying s, int hour) {
        Knowing k = new Knowing();
        k.state = 1;
        k.since = hour;
        k.version = s.parts.clone();
        k.by = 17;
        k.latest = hour;
        return k;
    }

    private static int number(int[] v) {
        return 1000 * v[0] + 100 * v[1] + 10 * v[2] + v[3];
    }

    int knows(int person, int saying, int what) {
        if (!someone(person) || !something(saying) || !in(what, 0, 4)) {
            return -1;
        }
        Knowing k = sayings.get(saying).known.get(person);
        if (what > 0 && k.state == 0) {
            return -4;
        }
        return new int[] {k.state, k.since, number(k.version), k.by, k.latest}[what];
    }

    int count(int what) {
        return in(what, 0, 4)
            ? new int[] {persons.size(), sayings.size(), clauses.size(), reports.size(), now}[what] : -1;
    }

    private boolean isLoud(int p, List<Knowing> known) {
        Knowing k = known.get(p);
        return k.state == 1 && persons.get(p).fear * weights[k.version[1]] >= 10;
    }

    private boolean someoneLoud(List<Knowing> known, int place, int hour) {
        for (int p = 0; p < persons.size(); p++) {
            if (persons.get(p).at(hour) == place && isLoud(p, known)) {
                return true;
            }
        }
        return false;
    }

    private List<Knowing> anHour(List<Knowing> ahead, int hour) {
        List<Knowing> behind = new ArrayList<>();
        for (int p = 0; p < persons.size(); p++) {
            Person one = persons.get(p);
            Knowing k = ahead.get(p).again();
            List<Integer> tellers = new ArrayList<>();
            for (int q = 0; q < persons.size(); q++) {
                if (q != p && isLoud(q, ahead) && persons.get(q).at(hour) == one.at(hour)) {
                    tellers.add(q);
                }
            }
            boolean test = one.fear + 2 * tellers.size() > one.doubt;
            if (tellers.isEmpty()) {
                if ((k.state == 1 || k.state == 2) && hour - k.latest >= 48) {
                    k.state = 3;
                    k.since = hour;
                }
            } else {
                if (k.state == 0 || k.state == 3) {
                    int least = tellers.get(0);
                    k.version = ahead.get(least).version.clone();
                    int habit = persons.get(least).habit;
                    if (habit > 0) {
                        k.version[habit - 1] = k.version[habit - 1] == 9 ? 0 : k.version[habit - 1] + 1;
                    }
                    k.by = least;
                    k.state = test ? 1 : 2;
                    k.since = hour;
                } else if (k.state == 2 && test) {
                    k.state = 1;
                    k.since = hour;
                }
                k.latest = hour;
            }
            behind.add(k);
        }
        return behind;
    }

    private List<Knowing> after(List<Knowing> known, int h) {
        List<Knowing> then = known;
        for (int t = 0; t < h; t++) {
            then = anHour(then, now + t);
        }
        return then;
    }

    int hours(int n) {
        if (!in(n, 1, 96)) {
            return -1;
        }
        if (now + n > 9999) {
            return -2;
        }
        for (Saying s : sayings) {
            s.known = after(s.known, n);
        }
        now += n;
        return now;
    }

    int reach(int saying, int state) {
        if (!something(saying) || !in(state, 0, 3)) {
            return -1;
        }
        int number = 0;
        for (Knowing k : sayings.get(saying).known) {
            number += k.state == state ? 1 : 0;
        }
        return number;
    }

    private int harmOf(Saying s, List<Knowing> known) {
        int sum = 0;
        for (Knowing k : known) {
            sum += k.state == 1 && s.kind != 3 ? weights[k.version[1]] : 0;
        }
        return sum;
    }

    int harm(int saying) {
        return something(saying) ? harmOf(sayings.get(saying), sayings.get(saying).known) : -1;
    }

    private List<Knowing> denied(Saying s, int wording) {
        int force = wording == 0 ? 3 : wording == 1 ? 5 : 1;
        List<Knowing> behind = new ArrayList<>();
        for (int p = 0; p < persons.size(); p++) {
            Person one = persons.get(p);
            Knowing k = s.known.get(p).again();
            behind.add(k);
            if (one.reads == 0) {
                continue;
            }
            if (k.state == 1) {
                if (one.trust * force > 20 * one.fear) {
                    k.state = 2;
                    k.since = now;
                }
                k.latest = now;
            } else if (k.state == 2) {
                k.latest = now;
            } else if (wording != 2) {
                k.state = 10 * one.fear > one.trust ? 1 : 2;
                k.since = now;
                k.version = s.parts.clone();
                k.by = 16;
                k.latest = now;
            }
        }
        return behind;
    }

    private static boolean isSecret(Saying s) {
        return s.kind == 3 && !s.may;
    }

    int deny(int saying, int wording) {
        if (!something(saying) || !in(wording, 0, 2)) {
            return -1;
        }
        Saying s = sayings.get(saying);
        if (isSecret(s)) {
            return -2;
        }
        s.denials++;
        List<Knowing> then = denied(s, wording);
        int another = 0;
        for (int p = 0; p < persons.size(); p++) {
            another += then.get(p).state != s.known.get(p).state ? 1 : 0;
        }
        s.known = then;
        return another;
    }

    int found(int saying) {
        if (!something(saying)) {
            return -1;
        }
        Saying s = sayings.get(saying);
        if (s.kind != 3) {
            return -12;
        }
        int number = s.denials;
        for (; s.denials > 0; s.denials--) {
            for (Person p : persons) {
                p.trust = p.reads == 1 ? Math.max(0, p.trust - 15) : p.trust;
            }
        }
        return number;
    }

    /** Harm foretold, where some sayings (bits) are denied in a wording. */
    private int foretoldWith(int bits, int wording, int h) {
        int sum = 0;
        for (int i = 0; i < sayings.size(); i++) {
            Saying s = sayings.get(i);
            sum += harmOf(s, after((bits >> i & 1) == 1 ? denied(s, wording) : s.known, h));
        }
        return sum;
    }

    int foretold(int h) {
        return in(h, 0, 96) ? foretoldWith(0, 0, h) : -1;
    }

    int wording(int saying, int h) {
        if (!something(saying) || !in(h, 0, 96)) {
            return -1;
        }
        if (isSecret(sayings.get(saying))) {
            return -2;
        }
        int best = 3;
        int least = foretoldWith(0, 0, h);
        for (int w = 0; w < 3; w++) {
            int harm = foretoldWith(1 << saying, w, h);
            if (harm < least) {
                best = w;
                least = harm;
            }
        }
        return best;
    }

    int plan(int set, int h) {
        if (!in(set, 0, (1 << sayings.size()) - 1) || Integer.bitCount(set) > 4 || !in(h, 0, 48)) {
            return -1;
        }
        for (int i = 0; i < sayings.size(); i++) {
            if ((set >> i & 1) == 1 && isSecret(sayings.get(i))) {
                return -2;
            }
        }
        long best = Long.MAX_VALUE;
        for (int bits = 0; bits <= set; bits++) {
            if ((bits & ~set) == 0) {
                // Least harm, then the fewest, then the least bits.
                long order = foretoldWith(bits, 0, h) * 1000000L + Integer.bitCount(bits) * 1000L + bits;
                best = Math.min(best, order);
            }
        }
        return (int) (best % 1000);
    }

    int type(long w, int n) {
        if (!in(n, 1, 8)) {
            return -1;
        }
        String more = "";
        for (int i = 0; i < n; i++) {
            int b = (int) (w >> 8 * i & 0xFF);
            if (!in(b, 32, 126)) {
                return -1;
            }
            more = (char) b + more;
        }
        if (tape.length() + n > 120) {
            return -3;
        }
        tape += more;
        return tape.length();
    }

    int guide() {
        String text = tape;
        tape = "";
        if (text.replace(" ", "").isEmpty()) {
            clauses.clear();
            return 0;
        }
        GuideMachine machine = new GuideMachine();
        for (int i = 0; i < text.length(); i++) {
            int fault = machine.step(text.charAt(i), i);
            if (fault >= 0) {
                return -20 - fault;
            }
        }
        int fault = machine.end(text.length());
        if (fault >= 0) {
            return -20 - fault;
        }
        clauses = new ArrayList<>(Arrays.asList(text.replace(" ", "").split(";")));
        return clauses.size();
    }

    /** The guide's texts as a machine of states that goes on by one byte. */
    static final class GuideMachine {
        // 0 a claim or !, 1 a claim behind !, 2 a relation, 3 a digit, 4 behind a claim, 5 an act,
        // 6 behind an act, 7 a day's first digit, 8 in a day, 9 behind a day
        int state, open, semicolons, dayStart;
        String day = "";

        int step(char c, int i) {
            if (c == ' ') {
                if (state == 8) {
                    state = 9;
                    return isDayWrong() ? dayStart : -1;
                }
                return -1;
            }
            switch (state) {
                case 0:
                case 1:
                    if (c == '!' && state == 0) {
                        state = 1;
                    } else if (c == '(' && open < 5) {
                        open++;
                        state = 0;
                    } else if ("wtnp".indexOf(c) >= 0) {
                        state = 2;
                    } else {
                        return i;
                    }
                    return -1;
                case 2:
                    state = 3;
                    return "=<>".indexOf(c) >= 0 ? -1 : i;
                case 3:
                    state = 4;
                    return c >= '0' && c <= '9' ? -1 : i;
                case 4:
                    if (c == '&' || c == '|') {
                        state = 0;
                    } else if (c == ')' && open > 0) {
                        open--;
                    } else if (c == ':' && open == 0) {
                        state = 5;
                    } else {
                        return i;
                    }
                    return -1;
                case 5:
                    state = 6;
                    return "dhs".indexOf(c) >= 0 ? -1 : i;
                case 7:
                    state = 8;
                    day = "" + c;
                    dayStart = i;
                    return c >= '0' && c <= '9' ? -1 : i;
                case 8:
                    if (c >= '0' && c <= '9') {
                        day += c;
                        return -1;
                    }
                    if (isDayWrong()) {
                        return dayStart;
                    }
                    return behindClause(c, i);
                default:
                    if (c == '@' && state == 6) {
                        state = 7;
                        return -1;
                    }
                    return behindClause(c, i);
            }
        }

        private int behindClause(char c, int i) {
            if (c != ';' || semicolons == 5) {
                return i;
            }
            semicolons++;
            state = 0;
            return -1;
        }

        private boolean isDayWrong() {
            return new java.math.BigInteger(day).compareTo(java.math.BigInteger.valueOf(416)) > 0;
        }

        int end(int length) {
            if (state == 8 && isDayWrong()) {
                return dayStart;
            }
            return state == 6 || state == 8 || state == 9 ? -1 : length;
        }
    }

    /** Whether a test, a text without blanks, holds: split at | and & that stand outside of brackets. */
    private static boolean holds(String test, int[] parts) {
        for (char joint : new char[] {'|', '&'}) {
            int open = 0;
            for (int i = 0; i < test.length(); i++) {
                open += test.charAt(i) == '(' ? 1 : test.charAt(i) == ')' ? -1 : 0;
                if (open == 0 && test.charAt(i) == joint) {
                    boolean left = holds(test.substring(0, i), parts);
                    boolean right = holds(test.substring(i + 1), parts);
                    return joint == '|' ? left || right : left && right;
                }
            }
        }
        if (test.startsWith("!")) {
            return !holds(test.substring(1), parts);
        }
        if (test.startsWith("(")) {
            return holds(test.substring(1, test.length() - 1), parts);
        }
        int part = parts["wtnp".indexOf(test.charAt(0))];
        int digit = test.charAt(2) - '0';
        char relation = test.charAt(1);
        return relation == '=' ? part == digit : relation == '<' ? part < digit : part > digit;
    }

    int why(int saying, int what) {
        if (!something(saying) || !in(what, 0, 1)) {
            return -1;
        }
        int last = -4;
        int act = -4;
        for (int c = 0; c < clauses.size(); c++) {
            String text = clauses.get(c);
            int colon = text.indexOf(':');
            int at = text.indexOf('@');
            int day = at < 0 ? 0 : Integer.parseInt(text.substring(at + 1));
            if (day <= now / 24 && holds(text.substring(0, colon), sayings.get(saying).parts)) {
                last = c;
                act = "dhs".indexOf(text.charAt(colon + 1));
            }
        }
        return what == 0 ? last : act;
    }

    private List<Integer> versionsOf(int saying) {
        TreeSet<Integer> all = new TreeSet<>();
        for (Knowing k : sayings.get(saying).known) {
            if (k.state != 0) {
                all.add(number(k.version));
            }
        }
        List<Integer> list = new ArrayList<>(all);
        return list.subList(0, Math.min(12, list.size()));
    }

    private static int far(int a, int b) {
        int d = 0;
        for (int unit = 1; unit <= 1000; unit *= 10) {
            d += a / unit % 10 != b / unit % 10 ? 1 : 0;
        }
        return d;
    }

    private static int[] treeOf(List<Integer> versions) {
        int[] to = new int[versions.size()];
        TreeSet<Integer> joined = new TreeSet<>();
        if (!versions.isEmpty()) {
            joined.add(0);
            to[0] = -4;
        }
        while (joined.size() < versions.size()) {
            int best = Integer.MAX_VALUE;
            for (int i = 0; i < versions.size(); i++) {
                for (int j : joined) {
                    if (!joined.contains(i)) {
                        best = Math.min(best, far(versions.get(i), versions.get(j)) * 10000 + i * 100 + j);
                    }
                }
            }
            joined.add(best / 100 % 100);
            to[best / 100 % 100] = best % 100;
        }
        return to;
    }

    int versions(int saying) {
        return something(saying) ? versionsOf(saying).size() : -1;
    }

    int version(int saying, int i, int what) {
        if (!something(saying) || !in(what, 0, 1) || !in(i, 0, versionsOf(saying).size() - 1)) {
            return -1;
        }
        return what == 0 ? versionsOf(saying).get(i) : treeOf(versionsOf(saying))[i];
    }

    /** By edges from the shortest on, which gives the same sum as any tree of the fewest changes. */
    int kin(int saying) {
        if (!something(saying)) {
            return -1;
        }
        List<Integer> v = versionsOf(saying);
        int[] group = new int[v.size()];
        for (int i = 0; i < group.length; i++) {
            group[i] = i;
        }
        int sum = 0;
        for (int d = 1; d <= 4; d++) {
            for (int i = 0; i < group.length; i++) {
                for (int j = 0; j < i; j++) {
                    if (group[i] != group[j] && far(v.get(i), v.get(j)) == d) {
                        sum += d;
                        int from = group[i];
                        int into = group[j];
                        for (int k = 0; k < group.length; k++) {
                            group[k] = group[k] == from ? into : group[k];
                        }
                    }
                }
            }
        }
        return sum;
    }

    int report(int place, int hour, boolean isTold) {
        if (!in(place, 0, 5) || !in(hour, 0, 23)) {
            return -1;
        }
        if (reports.size() == 12) {
            return -3;
        }
        reports.add(new int[] {place, hour, isTold ? 1 : 0});
        return reports.size() - 1;
    }

    int clear() {
        int gone = reports.size();
        reports.clear();
        return gone;
    }

    int could(int saying, int person, int hour) {
        if (!something(saying) || !someone(person) || !in(hour, 0, 23)) {
            return -1;
        }
        for (int[] r : reports) {
            List<Knowing> known = new ArrayList<>();
            for (int p = 0; p < persons.size(); p++) {
                known.add(p == person ? fromWithout(sayings.get(saying), hour) : new Knowing());
            }
            for (int t = hour; t < r[1]; t++) {
                known = anHour(known, t);
            }
            boolean loud = r[1] >= hour && someoneLoud(known, r[0], r[1]);
            if (loud != (r[2] == 1)) {
                return 0;
            }
        }
        return 1;
    }

    int first(int saying) {
        if (!something(saying)) {
            return -1;
        }
        int bits = 0;
        for (int p = 0; p < persons.size(); p++) {
            for (int hour = 0; hour < 24; hour++) {
                bits |= could(saying, p, hour) << p;
            }
        }
        return bits;
    }

    int posts(int k, int what) {
        if (!in(k, 1, 3) || !in(what, 0, 1)) {
            return -1;
        }
        int[] sums = new int[64];
        for (Saying s : sayings) {
            int[] soonest = new int[64];
            Arrays.fill(soonest, 24);
            List<Knowing> known = s.known;
            for (int t = 0; t < 24; t++) {
                for (int set = 0; set < 64; set++) {
                    for (int place = 0; place < 6; place++) {
                        if ((set >> place & 1) == 1 && someoneLoud(known, place, now + t)) {
                            soonest[set] = Math.min(soonest[set], t);
                        }
                    }
                }
                known = anHour(known, now + t);
            }
            for (int set = 0; set < 64; set++) {
                sums[set] += soonest[set];
            }
        }
        int best = -1;
        for (int set = 63; set >= 0; set--) {
            if (Integer.bitCount(set) == k && (best < 0 || sums[set] <= sums[best])) {
                best = set;
            }
        }
        return what == 0 ? best : sums[best];
    }

    /**
     * What the machine finds in taking items i .. i + n - 1 of a row as one of a lane; or 0. For n 0 it
     * is a part without items, which must begin in the row or at its end.
     */
    private int finds(Object row, int lane, int i, int n) {
        try {
            for (int k = 0; k < n; k++) {
                if (lane == 0) {
                    boolean ignored = ((boolean[]) row)[i + k];
                } else if (lane == 1) {
                    byte ignored = ((byte[]) row)[i + k];
                } else {
                    int ignored = ((int[]) row)[i + k];
                }
            }
        } catch (NullPointerException e) {
            return -11;
        } catch (ClassCastException e) {
            return -12;
        } catch (ArrayIndexOutOfBoundsException e) {
            return -13;
        }
        if (row == null) {
            return -11;
        }
        boolean isOfLane = lane == 0 ? row instanceof boolean[] : lane == 1 ? row instanceof byte[]
            : row instanceof int[];
        if (!isOfLane) {
            return -12;
        }
        return in(i, 0, java.lang.reflect.Array.getLength(row)) ? 0 : -13;
    }

    int check(int saying, int h, int sheet, int lane, int i) {
        if (!something(saying) || !in(h, 0, 48) || !in(sheet, 0, 3) || !in(lane, 1, 2)) {
            return -1;
        }
        int found = finds(rows[sheet], lane, i, persons.size());
        if (found != 0) {
            return found;
        }
        List<Knowing> then = after(sayings.get(saying).known, h);
        for (int p = 0; p < persons.size(); p++) {
            int told = lane == 1 ? ((byte[]) rows[sheet])[i + p] : ((int[]) rows[sheet])[i + p];
            if (told != then.get(p).state) {
                return p;
            }
        }
        return -4;
    }

    int sheet(int sheet, int lane, int n) {
        if (!in(sheet, 0, 3) || !in(lane, 0, 2) || n > 32) {
            return -1;
        }
        if (n < 0) {
            return -14;
        }
        if (lane == 0) {
            rows[sheet] = new boolean[n];
        } else if (lane == 1) {
            rows[sheet] = new byte[n];
        } else {
            rows[sheet] = new int[n];
        }
        return n;
    }

    int drop(int sheet) {
        if (!in(sheet, 0, 3)) {
            return -1;
        }
        if (rows[sheet] == null) {
            return -11;
        }
        int n = java.lang.reflect.Array.getLength(rows[sheet]);
        rows[sheet] = null;
        return n;
    }

    int item(int sheet, int lane, int i, int v) {
        if (!in(sheet, 0, 3) || !in(lane, 0, 2)) {
            return -1;
        }
        int found = finds(rows[sheet], lane, i, 1);
        if (found != 0) {
            return found;
        }
        if (lane == 0) {
            ((boolean[]) rows[sheet])[i] = v != 0;
        } else if (lane == 1) {
            ((byte[]) rows[sheet])[i] = (byte) v;
        } else {
            ((int[]) rows[sheet])[i] = v;
        }
        return 1;
    }

    int copy(int from, int i, int to, int j, int n) {
        if (!in(from, 0, 3) || !in(to, 0, 3)) {
            return -1;
        }
        try {
            System.arraycopy(rows[from], i, rows[to], j, n);
        } catch (NullPointerException e) {
            return -11;
        } catch (ArrayStoreException e) {
            return -12;
        } catch (IndexOutOfBoundsException e) {
            return -13;
        }
        return n;
    }

    int reads(int sheet, int i) {
        if (!in(sheet, 0, 3)) {
            return -1;
        }
        int found = finds(rows[sheet], 0, i, persons.size());
        if (found != 0) {
            return found;
        }
        int number = 0;
        for (int p = 0; p < persons.size(); p++) {
            persons.get(p).reads = ((boolean[]) rows[sheet])[i + p] ? 1 : 0;
            number += persons.get(p).reads;
        }
        return number;
    }
}
