import java.math.BigInteger;
import java.util.ArrayList;
import java.util.List;

/**
 * What the document says, in its slowest and plainest form, written apart from the class: chances by every row of skies
 * of its own, sets one after another, an E worked out from its text, a FAULT by trying how a text could go on.
 */
final class PlainModel {
    private static final int[] ABOVE = {-1, 0, 0, 0, 1, 2, 2};

    /** One of the PEOPLE. */
    private static final class One {
        int kind;
        int v;
        int a;
        int b;
        int at;
        int step = 1;

        One copy() {
            One c = new One();
            c.kind = kind;
            c.v = v;
            c.a = a;
            c.b = b;
            c.at = at;
            c.step = step;
            return c;
        }
    }

    /** All that there is. */
    private static final class All {
        int[] stands = new int[4];
        List<One> people = new ArrayList<>();
        int hour = 0;
        int sky = 0;
        String town = "";
        int towns = 0;
        String tape = "";
        List<Integer> row = new ArrayList<>();
        List<int[]> book = new ArrayList<>();

        int costs = 0;
        int wets = 0;
        int gone = 0;

        All copy() {
            All c = new All();
            c.stands = stands.clone();
            for (One one : people) {
                c.people.add(one.copy());
            }
            c.hour = hour;
            c.sky = sky;
            c.town = town;
            c.towns = towns;
            c.tape = tape;
            c.row.addAll(row);
            c.book.addAll(book);
            return c;
        }

        int umbrellas() {
            return stands[0] + stands[1] + stands[2] + stands[3];
        }
    }

    private All all = new All();
    private All image = null;
    private List<Integer> bodies = new ArrayList<>();

    // ---- an E, from its text

    private static final class Reader {
        final String text;
        final int[] facts;
        int place = 0;

        Reader(String text, int... facts) {
            this.text = text;
            this.facts = facts;
        }

        boolean or() {
            boolean left = and();
            while (place < text.length() && text.charAt(place) == '|') {
                place++;
                boolean right = and();
                left = left || right;
            }
            return left;
        }

        boolean and() {
            boolean left = not();
            while (place < text.length() && text.charAt(place) == '&') {
                place++;
                boolean right = not();
                left = left && right;
            }
            return left;
        }

        boolean not() {
            char c = text.charAt(place++);
            if (c == '!') {
                return !not();
            }
            if (c == '(') {
                boolean inside = or();
                place++;
                return inside;
            }
            int fact = facts["shpdu".indexOf(c)];
            char sign = text.charAt(place++);
            int from = place;
            while (place < text.length() && Character.isDigit(text.charAt(place))) {
                place++;
            }
            int n = Integer.parseInt(text.substring(from, place));
            return sign == '<' ? fact < n : sign == '=' ? fact == n : fact > n;
        }
    }

    private static boolean holds(String e, int... facts) {
        return new Reader(e, facts).or();
    }

    // ---- the TOWN

    private static final String[] WORDS = {"rain ", "wet ", "carry ", "lost ", "cart "};

    /** Whether what is done of a text could still become a TOWN; whole: whether it is one. */
    private static boolean viable(String text, boolean whole) {
        String[] clauses = text.split(";", -1);
        if (clauses.length > 10) {
            return false;
        }
        for (int k = 0; k < clauses.length; k++) {
            boolean last = k == clauses.length - 1;
            if (!clauseViable(clauses[k], whole || !last)) {
                return false;
            }
        }
        return true;
    }

    private static boolean clauseViable(String clause, boolean whole) {
        for (String word : WORDS) {
            if (!whole && word.startsWith(clause)) {
                return true;
            }
            if (clause.startsWith(word)) {
                String rest = clause.substring(word.length());
                if (!word.startsWith("rain") && !word.startsWith("lost")) {
                    return numberViable(rest, whole);
                }
                int blank = rest.indexOf(' ');
                if (blank < 0) {
                    return !whole && numberViable(rest, false);
                }
                return numberViable(rest.substring(0, blank), true) && expressionViable(rest.substring(blank + 1), whole);
            }
        }
        return false;
    }

    private static boolean numberViable(String text, boolean whole) {
        return text.matches("0|[1-9][0-9]?") || !whole && text.isEmpty();
    }

    /** A machine with a stack: ahead of an F, or behind one. */
    private static boolean expressionViable(String text, boolean whole) {
        StringBuilder open = new StringBuilder();
        boolean behind = false;
        int k = 0;
        while (k < text.length()) {
            char c = text.charAt(k);
            if (!behind) {
                if (c == '!' || c == '(') {
                    open.append(c);
                    if (open.length() > 5) {
                        return false;
                    }
                    k++;
                    continue;
                }
                int end = k;
                while (end < text.length() && "&|)".indexOf(text.charAt(end)) < 0) {
                    end++;
                }
                String test = text.substring(k, end);
                boolean cut = end == text.length();
                if (!test.matches("[shpdu][<=>](0|[1-9][0-9]?)")) {
                    return cut && !whole && test.matches("([shpdu][<=>]?)?");
                }
                k = end;
                behind = true;
                close(open);
            } else if (c == ')') {
                if (open.length() == 0) {
                    return false;
                }
                open.setLength(open.length() - 1);
                close(open);
                k++;
            } else if (c == '&' || c == '|') {
                behind = false;
                k++;
            } else {
                return false;
            }
        }
        return !whole || behind && open.length() == 0;
    }

    /** An F ends: with it all ! right ahead of it. */
    private static void close(StringBuilder open) {
        while (open.length() > 0 && open.charAt(open.length() - 1) == '!') {
            open.setLength(open.length() - 1);
        }
    }

    private static int rainOf(All x, int hour, int skyAhead) {
        int together = 0;
        for (String clause : x.town.split(";")) {
            String[] parts = clause.split(" ");
            if (parts[0].equals("rain") && holds(parts[2], skyAhead, hour % 24, 99, 99, 99)) {
                together += Integer.parseInt(parts[1]);
            }
        }
        return Math.min(10, together);
    }

    private static int lastOf(All x, String word, int without) {
        int n = without;
        for (String clause : x.town.split(";")) {
            if (clause.startsWith(word + " ")) {
                n = Integer.parseInt(clause.substring(word.length() + 1));
            }
        }
        return n;
    }

    private static boolean lost(All x, int person, int door, int stood) {
        boolean gone = false;
        for (String clause : x.town.split(";")) {
            String[] parts = clause.split(" ");
            if (parts[0].equals("lost")) {
                int n = Integer.parseInt(parts[1]);
                boolean e = holds(parts[2], x.sky, x.hour % 24, person, door, stood);
                gone = gone || e && n > 0 && (x.hour + 1) % n == 0;
            }
        }
        return gone;
    }

    // ---- AN HOUR

    private static int other(One one) {
        return one.at == one.a ? one.b : one.a;
    }

    private static boolean takes(All x, One one, int sky) {
        int here = x.stands[one.at];
        int there = x.stands[other(one)];
        boolean rain = sky == 1;
        boolean back = rain || here >= one.v && here > there;
        boolean will;
        switch (one.kind) {
            case 0:
                will = rain;
                break;
            case 1:
                will = rain || rainOf(x, x.hour + 1, sky) >= one.v;
                break;
            case 2:
            case 5:
                will = back;
                break;
            case 3:
                will = rain && x.hour % 10 != one.v;
                break;
            case 4:
                will = true;
                break;
            default:
                will = back && (rain || here != 1);
                break;
        }
        return will && here > 0;
    }

    private static void hour(All x, int sky) {
        x.sky = sky;
        int wet = lastOf(x, "wet", 9);
        int carry = lastOf(x, "carry", 1);
        List<String> took = new ArrayList<>();
        List<Integer> brought = new ArrayList<>();
        for (int p = 0; p < x.people.size(); p++) {
            One one = x.people.get(p);
            if (x.hour % one.step != 0) {
                continue;
            }
            int from = one.at;
            int to = other(one);
            if (takes(x, one, sky)) {
                boolean isLost = lost(x, p, from, x.stands[from]);
                x.stands[from]--;
                took.add(from + ">" + to);
                if (sky == 0) {
                    x.costs += carry;
                }
                if (isLost) {
                    x.gone++;
                } else {
                    brought.add(to);
                }
            } else if (sky == 1 && !(one.kind == 5 && took.contains(from + ">" + to))) {
                x.wets++;
                x.costs += wet;
            }
            one.at = to;
        }
        for (int to : brought) {
            if (x.stands[to] >= 9) {
                x.gone++;
            } else {
                x.stands[to]++;
            }
        }
        x.hour++;
    }

    /** Of n HOURS: costs, dry, and what stands at the DOORS, all times ten to the n. */
    private static BigInteger[] chances(All from, int n) {
        BigInteger[] sums = new BigInteger[6];
        java.util.Arrays.fill(sums, BigInteger.ZERO);
        for (int skies = 0; skies < 1 << n; skies++) {
            All x = from.copy();
            BigInteger weight = BigInteger.ONE;
            for (int k = 0; k < n; k++) {
                int sky = skies >> k & 1;
                int rain = rainOf(x, x.hour, x.sky);
                weight = weight.multiply(BigInteger.valueOf(sky == 1 ? rain : 10 - rain));
                if (weight.signum() == 0) {
                    break;
                }
                hour(x, sky);
            }
            if (weight.signum() == 0) {
                continue;
            }
            sums[0] = sums[0].add(weight.multiply(BigInteger.valueOf(x.costs)));
            if (x.wets == 0) {
                sums[1] = sums[1].add(weight);
            }
            for (int d = 0; d < 4; d++) {
                sums[2 + d] = sums[2 + d].add(weight.multiply(BigInteger.valueOf(x.stands[d])));
            }
        }
        return sums;
    }

    private static long part(BigInteger above, int n, int part) {
        BigInteger below = BigInteger.TEN.pow(n);
        BigInteger common = above.gcd(below);
        return (part == 0 ? above : below).divide(common).longValueExact();
    }

    // ---- the face

    int stand(int door, int n) {
        if (door < 0 || door > 3) {
            return -1;
        }
        if (n < 0 || n > 9) {
            return -2;
        }
        int had = all.stands[door];
        all.stands[door] = n;
        return had;
    }

    int feed(long w, int n) {
        if (n < 1 || n > 8) {
            return -2;
        }
        if (all.tape.length() + n > 120) {
            return -4;
        }
        for (int k = 0; k < n; k++) {
            all.tape += (char) (w >> 8 * (n - 1 - k) & 255);
        }
        return all.tape.length();
    }

    int town() {
        if (all.towns == 5) {
            return -4;
        }
        String text = all.tape;
        all.tape = "";
        if (viable(text, true)) {
            all.town = text;
            return all.towns++;
        }
        int fault = 0;
        while (fault < text.length() && viable(text.substring(0, fault + 1), false)) {
            fault++;
        }
        return -10 - fault;
    }

    int told(int what) {
        switch (what) {
            case 0: return rainOf(all, all.hour, all.sky);
            case 1: return lastOf(all, "wet", 9);
            case 2: return lastOf(all, "carry", 1);
            case 3: return lastOf(all, "cart", 2);
            case 4: return all.hour;
            case 5: return all.sky;
            default: return -1;
        }
    }

    int person(int kind, int v, int doors) {
        if (kind < 0 || kind > 6 || doors < 0 || doors / 10 > 3 || doors % 10 > 3) {
            return -1;
        }
        if (v < 0 || v > 9 || doors / 10 == doors % 10) {
            return -2;
        }
        if (all.people.size() == 6) {
            return -4;
        }
        One one = new One();
        one.kind = kind;
        one.v = v;
        one.a = doors / 10;
        one.b = doors % 10;
        one.at = one.a;
        all.people.add(one);
        return all.people.size() - 1;
    }

    private boolean nobody(int person) {
        return person < 0 || person >= all.people.size();
    }

    int step(int person, int n) {
        if (nobody(person)) {
            return -1;
        }
        if (n < 1 || n > 9) {
            return -2;
        }
        int was = all.people.get(person).step;
        all.people.get(person).step = n;
        return was;
    }

    int of(int person, int what) {
        if (nobody(person) || what < 0 || what > 7) {
            return -1;
        }
        One one = all.people.get(person);
        int[] answers = {one.kind, one.v, one.a, one.b, one.at, one.step,
            takes(all, one, 0) ? 1 : 0, takes(all, one, 1) ? 1 : 0};
        return answers[what];
    }

    int go(int sky) {
        if (sky < 0 || sky > 1) {
            return -1002;
        }
        if (all.hour == 999) {
            return -1003;
        }
        int before = all.costs;
        hour(all, sky);
        return all.costs - before;
    }

    int row(int sky) {
        if (sky < -1 || sky > 1) {
            return -2;
        }
        if (sky == -1) {
            all.row.clear();
            return 0;
        }
        if (all.row.size() == 20) {
            return -4;
        }
        all.row.add(sky);
        return all.row.size();
    }

    int hand(int n, int what) {
        if (what < 0 || what > 6) {
            return -1001;
        }
        if (n < 0 || n > all.row.size()) {
            return -1002;
        }
        All x = all.copy();
        for (int k = 0; k < n; k++) {
            hour(x, x.row.get(k));
        }
        int[] answers = {x.costs, x.wets, x.stands[0], x.stands[1], x.stands[2], x.stands[3], x.gone};
        return answers[what];
    }

    long mean(int n, int what, int part) {
        if (n < 1 || n > 8 || what < 0 || what > 1 || part < 0 || part > 1) {
            return Long.MIN_VALUE;
        }
        return part(chances(all, n)[what], n, part);
    }

    int least(int n, int b) {
        if (n < 1 || n > 8 || b < 0 || b > 100) {
            return -2;
        }
        for (int k = 0; k <= 9; k++) {
            All x = all.copy();
            x.stands = new int[] {k, k, k, k};
            BigInteger dry = chances(x, n)[1].multiply(BigInteger.valueOf(100));
            if (dry.compareTo(BigInteger.TEN.pow(n).multiply(BigInteger.valueOf(100 - b))) >= 0) {
                return k;
            }
        }
        return -5;
    }

    int start(int n, int k) {
        if (k < 0 || k > 3) {
            return -1;
        }
        if (n < 1 || n > 5) {
            return -2;
        }
        if (all.umbrellas() > 6) {
            return -9;
        }
        BigInteger best = null;
        int answer = 0;
        for (int row = 0; row < 10000; row++) {
            int[] stands = {row / 1000, row / 100 % 10, row / 10 % 10, row % 10};
            if (stands[0] + stands[1] + stands[2] + stands[3] == all.umbrellas()) {
                All x = all.copy();
                x.stands = stands.clone();
                BigInteger costs = chances(x, n)[0];
                if (best == null || costs.compareTo(best) < 0) {
                    best = costs;
                    answer = stands[k];
                }
            }
        }
        return answer;
    }

    int rule(int person, int n) {
        if (nobody(person)) {
            return -1;
        }
        if (n < 1 || n > 6) {
            return -2;
        }
        BigInteger best = null;
        int answer = 0;
        for (int v = 0; v <= 9; v++) {
            All x = all.copy();
            x.people.get(person).v = v;
            BigInteger costs = chances(x, n)[0];
            if (best == null || costs.compareTo(best) < 0) {
                best = costs;
                answer = v;
            }
        }
        return answer;
    }

    int gather(int n) {
        if (n < 1 || n > 6) {
            return -2;
        }
        BigInteger[] sums = chances(all, n);
        int best = 0;
        for (int d = 1; d < 4; d++) {
            if (sums[2 + d].compareTo(sums[2 + best]) > 0) {
                best = d;
            }
        }
        return best;
    }

    long penny(int person, int n, int part) {
        if (nobody(person) || n < 1 || n > 6 || part < 0 || part > 1) {
            return Long.MIN_VALUE;
        }
        All x = all.copy();
        x.people.get(person).kind = 4;
        // costs that earlier HOURS came to are not in a copy
        return part(chances(all, n)[0].subtract(chances(x, n)[0]), n, part);
    }

    private static int carted(All x) {
        int most = 0;
        int fewest = 0;
        for (int d = 3; d >= 0; d--) {
            most = x.stands[d] >= x.stands[most] ? d : most;
            fewest = x.stands[d] <= x.stands[fewest] ? d : fewest;
        }
        int load = lastOf(x, "cart", 2);
        int moved = 0;
        while (most != fewest && moved < load && x.stands[most] > 0 && x.stands[fewest] < 9) {
            x.stands[most]--;
            x.stands[fewest]++;
            moved++;
        }
        return moved;
    }

    int cart() {
        return carted(all);
    }

    int needed() {
        int hours = Math.min(12, all.row.size());
        int best = -5;
        for (int set = 0; set < 1 << hours; set++) {
            if (best != -5 && Integer.bitCount(set) >= Integer.bitCount(best)) {
                continue;
            }
            All x = all.copy();
            for (int k = 0; k < hours && x.wets == 0; k++) {
                if ((set >> k & 1) == 1) {
                    carted(x);
                }
                hour(x, x.row.get(k));
            }
            if (x.wets == 0) {
                best = set;
            }
        }
        return best;
    }

    int book(int door, int n) {
        if (door < 0 || door > 3) {
            return -1;
        }
        if (n < 0 || n > 99) {
            return -2;
        }
        if (all.book.size() == 10) {
            return -4;
        }
        all.book.add(new int[] {door, n});
        return all.book.size();
    }

    int vanish(int what) {
        if (what < 0 || what > 1) {
            return -1;
        }
        java.util.TreeMap<Integer, Integer> doors = new java.util.TreeMap<>();
        for (int[] entry : all.book) {
            doors.merge(entry[0], entry[1], Integer::sum);
        }
        int most = -1;
        int door = -5;
        int sum = 0;
        for (var entry : doors.entrySet()) {
            sum += entry.getValue();
            if (entry.getValue() > most) {
                most = entry.getValue();
                door = entry.getKey();
            }
        }
        if (what == 0 || door == -5) {
            return door;
        }
        // more / 100 of an umbrella: the largest one that is no more than it is
        int more = 0;
        while ((more + 1) * doors.size() <= 100 * (most * doors.size() - sum)) {
            more++;
        }
        return more;
    }

    int act(int person, int act, int x) {
        bodies = new ArrayList<>();
        if (nobody(person) || act < 0 || act > 2) {
            return 0;
        }
        return body(person, all.people.get(person).kind, act, x);
    }

    /** The body of an ACT from a KIND on upward. */
    private int body(int i, int kind, int act, int x) {
        One one = all.people.get(i);
        int number = kind * 10 + act + 1;
        List<Integer> own = List.of(1, 2, 3, 11, 22, 33, 43, 51, 62);
        if (!own.contains(number)) {
            return body(i, ABOVE[kind], act, x);
        }
        bodies.add(kind == 0 ? number : kind * 10 + 1);
        switch (number) {
            case 1: return x + i;
            case 2: return body(i, one.kind, 0, x) - one.v;
            case 3: return body(i, one.kind, 1, x) * 2;
            case 11: return body(i, 0, 0, x * 3);
            case 22: return -body(i, 0, 1, x);
            case 33: return body(i, 0, 2, x) ^ 7;
            case 43: {
                int first = body(i, 1, 2, x - 1);
                return first + body(i, one.kind, 0, 2);
            }
            case 51: return body(i, 2, 0, x) ^ i;
            default: return body(i, 2, 1, x) + one.v;
        }
    }

    int trace(int i) {
        return i < 0 || i >= Math.min(20, bodies.size()) ? -1 : bodies.get(i);
    }

    int as(int person, int k) {
        if (nobody(person) || k < 0 || k > 6) {
            return -1;
        }
        for (int kind = all.people.get(person).kind; kind >= 0; kind = ABOVE[kind]) {
            if (kind == k) {
                return all.people.get(person).v;
            }
        }
        return -6;
    }

    int image() {
        image = all.copy();
        return all.people.size();
    }

    int undo() {
        if (image == null) {
            return -3;
        }
        all = image.copy();
        return all.people.size();
    }

    int count(int what) {
        int[] answers = {all.people.size(), all.umbrellas(), all.towns, all.row.size(), all.book.size(),
            all.tape.length(), bodies.size()};
        return what < 0 || what > 6 ? -1 : answers[what];
    }
}
