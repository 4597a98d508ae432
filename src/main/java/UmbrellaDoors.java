/** Doors with stands, people who go to and fro, and umbrellas that are always at the wrong end. */
public final class UmbrellaDoors {
    public static final int NONE = -1, BAD = -2, STATE = -3, FULL = -4;
    public static final long NO = Long.MIN_VALUE;

    private static final int FINE = 0, RAIN = 1;
    private static final int DOORS = 4, MOST_STANDING = 9, LAST_HOUR = 999, HOURS_OF_DAY = 24;
    private static final int MOST_PEOPLE = 6, MOST_V = 9, MOST_STEP = 9, KINDS = 7, ALWAYS = 4;
    private static final int MOST_BYTES = 120, MOST_CLAUSES = 10, MOST_OPEN = 5, MOST_TOWNS = 5;
    private static final int MOST_SKIES = 20, MOST_CARTED = 12, MOST_ROWS = 10, MOST_VANISHED = 99;
    private static final int MOST_TRACED = 20, MOST_START = 6, TENTHS = 10, HUNDREDTHS = 100;
    private static final int NOTHING = -5, OTHER_KIND = -6, TOO_MANY = -9, FAULT_BASE = -10;
    private static final int FAR_NONE = -1001, FAR_BAD = -1002, FAR_STATE = -1003;

    private final State now = new State();
    private final State kept = new State();
    private boolean keptOne = false;
    private final Trace bodies = new Trace();

    /** What is thought of: the first one is where a thought begins, each next one an HOUR on. */
    private final World[] thoughts = new World[MOST_CARTED + 1];
    private final long[] standSums = new long[DOORS];
    private long costSum = 0;
    private long drySum = 0;
    private int bestSet = NOTHING;

    public UmbrellaDoors() {
        for (int k = 0; k < thoughts.length; k++) {
            thoughts[k] = new World();
        }
    }

    // ---- doors, towns

    public int stand(int door, int n) {
        if (!isDoor(door)) {
            return NONE;
        }
        if (n < 0 || n > MOST_STANDING) {
            return BAD;
        }
        int had = now.world.standing[door];
        now.world.standing[door] = n;
        return had;
    }

    public int feed(long w, int n) {
        if (n < 1 || n > 8) {
            return BAD;
        }
        if (now.tapeSize + n > MOST_BYTES) {
            return FULL;
        }
        for (int k = n - 1; k >= 0; k--) {
            now.tape[now.tapeSize] = (byte) (w >>> (8 * k));
            now.tapeSize++;
        }
        return now.tapeSize;
    }

    public int town() {
        if (now.towns >= MOST_TOWNS) {
            return FULL;
        }
        Town read = new Town();
        int fault = read.readFrom(now.tape, now.tapeSize);
        now.tapeSize = 0;
        if (fault != NONE) {
            return FAULT_BASE - fault;
        }
        now.holding = read;
        now.towns++;
        return now.towns - 1;
    }

    public int told(int what) {
        switch (what) {
            case 0: return now.holding.rainOf(now.world.hour, now.world.sky);
            case 1: return now.holding.wet;
            case 2: return now.holding.carry;
            case 3: return now.holding.carted;
            case 4: return now.world.hour;
            case 5: return now.world.sky;
            default: return NONE;
        }
    }

    // ---- people, hours

    public int person(int kind, int v, int doors) {
        if (kind < 0 || kind >= KINDS || doors < 0) {
            return NONE;
        }
        int a = doors / 10;
        int b = doors % 10;
        if (!isDoor(a) || !isDoor(b)) {
            return NONE;
        }
        if (v < 0 || v > MOST_V || a == b) {
            return BAD;
        }
        if (now.peopleSize >= MOST_PEOPLE) {
            return FULL;
        }
        int number = now.peopleSize;
        now.people[number] = oneOf(kind, number, v, a, b);
        now.steps[number] = 1;
        now.world.at[number] = a;
        now.peopleSize++;
        return number;
    }

    public int step(int person, int n) {
        if (personAt(person) == null) {
            return NONE;
        }
        if (n < 1 || n > MOST_STEP) {
            return BAD;
        }
        int was = now.steps[person];
        now.steps[person] = n;
        return was;
    }

    public int of(int person, int what) {
        Walker one = personAt(person);
        if (one == null) {
            return NONE;
        }
        switch (what) {
            case 0: return one.kind;
            case 1: return one.v;
            case 2: return one.a;
            case 3: return one.b;
            case 4: return now.world.at[person];
            case 5: return now.steps[person];
            case 6: return now.world.wouldTake(one, now.holding, FINE) ? 1 : 0;
            case 7: return now.world.wouldTake(one, now.holding, RAIN) ? 1 : 0;
            default: return NONE;
        }
    }

    public int go(int sky) {
        if (sky != FINE && sky != RAIN) {
            return FAR_BAD;
        }
        if (now.world.hour >= LAST_HOUR) {
            return FAR_STATE;
        }
        now.world.forgetTallies();
        now.world.pass(now, sky);
        return now.world.costs;
    }

    public int row(int sky) {
        if (sky == -1) {
            now.rowSize = 0;
            return 0;
        }
        if (sky != FINE && sky != RAIN) {
            return BAD;
        }
        if (now.rowSize >= MOST_SKIES) {
            return FULL;
        }
        now.skies[now.rowSize] = sky;
        now.rowSize++;
        return now.rowSize;
    }

    public int hand(int n, int what) {
        if (what < 0 || what > DOORS + 2) {
            return FAR_NONE;
        }
        if (n < 0 || n > now.rowSize) {
            return FAR_BAD;
        }
        World thought = beginThought();
        for (int k = 0; k < n; k++) {
            thought.pass(now, now.skies[k]);
        }
        switch (what) {
            case 0: return thought.costs;
            case 1: return thought.wets;
            case DOORS + 2: return thought.gone;
            default: return thought.standing[what - 2];
        }
    }

    // ---- chances

    public long mean(int n, int what, int part) {
        if (n < 1 || n > 8 || what < 0 || what > 1 || part < 0 || part > 1) {
            return NO;
        }
        beginThought();
        weigh(0, n, 1);
        return fractionPart(what == 0 ? costSum : drySum, tenTo(n), part);
    }

    public int least(int n, int b) {
        if (n < 1 || n > 8 || b < 0 || b > HUNDREDTHS) {
            return BAD;
        }
        long due = (HUNDREDTHS - b) * tenTo(n);
        for (int k = 0; k <= MOST_STANDING; k++) {
            beginThought().layStands(k, k, k, k);
            weigh(0, n, 1);
            if (drySum * HUNDREDTHS >= due) {
                return k;
            }
        }
        return NOTHING;
    }

    public int start(int n, int k) {
        if (!isDoor(k)) {
            return NONE;
        }
        if (n < 1 || n > 5) {
            return BAD;
        }
        int all = now.world.standingInAll();
        if (all > MOST_START) {
            return TOO_MANY;
        }
        return standIn(bestStart(n, all), k);
    }

    public int rule(int person, int n) {
        Walker one = personAt(person);
        if (one == null) {
            return NONE;
        }
        if (n < 1 || n > 6) {
            return BAD;
        }
        int was = one.v;
        int best = 0;
        long bestSum = 0;
        for (int v = 0; v <= MOST_V; v++) {
            one.v = v;
            beginThought();
            weigh(0, n, 1);
            if (v == 0 || costSum < bestSum) {
                best = v;
                bestSum = costSum;
            }
        }
        one.v = was;
        return best;
    }

    public int gather(int n) {
        if (n < 1 || n > 6) {
            return BAD;
        }
        beginThought();
        weigh(0, n, 1);
        int best = 0;
        for (int door = 1; door < DOORS; door++) {
            if (standSums[door] > standSums[best]) {
                best = door;
            }
        }
        return best;
    }

    public long penny(int person, int n, int part) {
        Walker one = personAt(person);
        if (one == null || n < 1 || n > 6 || part < 0 || part > 1) {
            return NO;
        }
        beginThought();
        weigh(0, n, 1);
        long asItIs = costSum;
        now.people[person] = oneOf(ALWAYS, person, one.v, one.a, one.b);
        beginThought();
        weigh(0, n, 1);
        now.people[person] = one;
        return fractionPart(asItIs - costSum, tenTo(n), part);
    }

    // ---- carts, books

    public int cart() {
        return now.world.moveCart(now.holding.carted);
    }

    public int needed() {
        bestSet = NOTHING;
        beginThought();
        seekCarts(0, 0);
        return bestSet;
    }

    public int book(int door, int n) {
        if (!isDoor(door)) {
            return NONE;
        }
        if (n < 0 || n > MOST_VANISHED) {
            return BAD;
        }
        if (now.bookSize >= MOST_ROWS) {
            return FULL;
        }
        now.bookDoors[now.bookSize] = door;
        now.bookCounts[now.bookSize] = n;
        now.bookSize++;
        return now.bookSize;
    }

    public int vanish(int what) {
        if (what < 0 || what > 1) {
            return NONE;
        }
        int toldDoors = 0;
        int together = 0;
        int best = NOTHING;
        int bestCount = 0;
        for (int door = 0; door < DOORS; door++) {
            int count = now.vanishedAt(door);
            if (count >= 0) {
                toldDoors++;
                together += count;
                if (best == NOTHING || count > bestCount) {
                    best = door;
                    bestCount = count;
                }
            }
        }
        if (toldDoors == 0 || what == 0) {
            return best;
        }
        return HUNDREDTHS * (bestCount * toldDoors - together) / toldDoors;
    }

    // ---- acts, the image

    public int act(int person, int act, int x) {
        bodies.ran = 0;
        Walker one = personAt(person);
        if (one == null) {
            return 0;
        }
        switch (act) {
            case 0: return one.takes(x, bodies);
            case 1: return one.walks(x, bodies);
            case 2: return one.tells(x, bodies);
            default: return 0;
        }
    }

    public int trace(int i) {
        if (i < 0 || i >= bodies.ran || i >= MOST_TRACED) {
            return NONE;
        }
        return bodies.numbers[i];
    }

    public int as(int person, int k) {
        Walker one = personAt(person);
        if (one == null || k < 0 || k >= KINDS) {
            return NONE;
        }
        return isOfKind(one, k) ? one.v : OTHER_KIND;
    }

    public int image() {
        kept.copyFrom(now);
        keptOne = true;
        return now.peopleSize;
    }

    public int undo() {
        if (!keptOne) {
            return STATE;
        }
        now.copyFrom(kept);
        return now.peopleSize;
    }

    public int count(int what) {
        switch (what) {
            case 0: return now.peopleSize;
            case 1: return now.world.standingInAll();
            case 2: return now.towns;
            case 3: return now.rowSize;
            case 4: return now.bookSize;
            case 5: return now.tapeSize;
            case 6: return bodies.ran;
            default: return NONE;
        }
    }

    // ---- what the calls share

    private static boolean isDoor(int door) {
        return door >= 0 && door < DOORS;
    }

    private Walker personAt(int person) {
        return person >= 0 && person < now.peopleSize ? now.people[person] : null;
    }

    private static Walker oneOf(int kind, int number, int v, int a, int b) {
        switch (kind) {
            case 1: return new Ahead(kind, number, v, a, b);
            case 2: return new Back(kind, number, v, a, b);
            case 3: return new Hardy(kind, number, v, a, b);
            case ALWAYS: return new Always(kind, number, v, a, b);
            case 5: return new Sharing(kind, number, v, a, b);
            case 6: return new Faithful(kind, number, v, a, b);
            default: return new Walker(kind, number, v, a, b);
        }
    }

    private static boolean isOfKind(Walker one, int kind) {
        switch (kind) {
            case 0: return true;
            case 1: return one instanceof Ahead;
            case 2: return one instanceof Back;
            case 3: return one instanceof Hardy;
            case ALWAYS: return one instanceof Always;
            case 5: return one instanceof Sharing;
            case 6: return one instanceof Faithful;
            default: return false;
        }
    }

    private World beginThought() {
        costSum = 0;
        drySum = 0;
        for (int door = 0; door < DOORS; door++) {
            standSums[door] = 0;
        }
        World first = thoughts[0];
        first.copyFrom(now.world);
        first.forgetTallies();
        return first;
    }

    /** The HOURS that are left, by RAIN; begun with weight 1, the sums are parts of ten to their number. */
    private void weigh(int level, int left, long weight) {
        World here = thoughts[level];
        if (left <= 0 || level + 1 >= thoughts.length) {
            addWeighed(here, weight);
            return;
        }
        World next = thoughts[level + 1];
        int rain = now.holding.rainOf(here.hour, here.sky);
        for (int sky = FINE; sky <= RAIN; sky++) {
            int chance = sky == RAIN ? rain : TENTHS - rain;
            if (chance > 0) {
                next.copyFrom(here);
                next.pass(now, sky);
                weigh(level + 1, left - 1, weight * chance);
            }
        }
    }

    private void addWeighed(World end, long weight) {
        costSum += weight * end.costs;
        if (end.wets == 0) {
            drySum += weight;
        }
        for (int door = 0; door < DOORS; door++) {
            standSums[door] += weight * end.standing[door];
        }
    }

    /** The best row of STANDS, its DOORS as the digits of one number. */
    private int bestStart(int n, int all) {
        int best = NOTHING;
        long bestSum = 0;
        for (int s0 = 0; s0 <= all; s0++) {
            for (int s1 = 0; s1 <= all - s0; s1++) {
                for (int s2 = 0; s2 <= all - s0 - s1; s2++) {
                    int s3 = all - s0 - s1 - s2;
                    beginThought().layStands(s0, s1, s2, s3);
                    weigh(0, n, 1);
                    if (best == NOTHING || costSum < bestSum) {
                        best = s0 * 1000 + s1 * 100 + s2 * 10 + s3;
                        bestSum = costSum;
                    }
                }
            }
        }
        return best;
    }

    private static int standIn(int digits, int door) {
        switch (door) {
            case 0: return digits / 1000;
            case 1: return digits / 100 % 10;
            case 2: return digits / 10 % 10;
            default: return digits % 10;
        }
    }

    /** Tries sets of HOURS for the CART; so many HOURS of the ROW are behind it, and nobody was WET. */
    private void seekCarts(int hours, int set) {
        if (bestSet != NOTHING && Integer.bitCount(set) > Integer.bitCount(bestSet)) {
            return;
        }
        if (hours >= now.rowSize || hours >= MOST_CARTED) {
            if (bestSet == NOTHING || comesFirst(set, bestSet)) {
                bestSet = set;
            }
            return;
        }
        World next = thoughts[hours + 1];
        for (int carts = 0; carts <= 1; carts++) {
            next.copyFrom(thoughts[hours]);
            // a CART that moves nothing never stands in the smallest set
            if (carts == 0 || next.moveCart(now.holding.carted) > 0) {
                next.pass(now, now.skies[hours]);
                if (next.wets == 0) {
                    seekCarts(hours + 1, set | carts << hours);
                }
            }
        }
    }

    private static boolean comesFirst(int set, int other) {
        int less = Integer.bitCount(set) - Integer.bitCount(other);
        return less < 0 || less == 0 && set < other;
    }

    private static long tenTo(int n) {
        long power = 1;
        for (int k = 0; k < n; k++) {
            power *= 10;
        }
        return power;
    }

    private static long fractionPart(long above, long below, int part) {
        long common = Math.max(1, commonDivisor(Math.abs(above), below));
        return part == 0 ? above / common : below / common;
    }

    private static long commonDivisor(long a, long b) {
        // Euclid's way over longs takes fewer than a hundred rounds
        for (int k = 0; k < 100 && b != 0; k++) {
            long rest = a % b;
            a = b;
            b = rest;
        }
        return a;
    }

    /** All that there is, but THE IMAGE and THE TRACE. */
    private static final class State {
        final World world = new World();
        final Walker[] people = new Walker[MOST_PEOPLE];
        final int[] steps = new int[MOST_PEOPLE];
        int peopleSize = 0;
        Town holding = new Town();
        int towns = 0;
        final byte[] tape = new byte[MOST_BYTES];
        int tapeSize = 0;
        final int[] skies = new int[MOST_SKIES];
        int rowSize = 0;
        final int[] bookDoors = new int[MOST_ROWS];
        final int[] bookCounts = new int[MOST_ROWS];
        int bookSize = 0;

        /** PEOPLE (but for the v that RULE tries) and TOWNS never change: both may have the same ones. */
        void copyFrom(State other) {
            world.copyFrom(other.world);
            for (int k = 0; k < MOST_PEOPLE; k++) {
                people[k] = other.people[k];
                steps[k] = other.steps[k];
            }
            peopleSize = other.peopleSize;
            holding = other.holding;
            towns = other.towns;
            System.arraycopy(other.tape, 0, tape, 0, MOST_BYTES);
            tapeSize = other.tapeSize;
            System.arraycopy(other.skies, 0, skies, 0, MOST_SKIES);
            rowSize = other.rowSize;
            System.arraycopy(other.bookDoors, 0, bookDoors, 0, MOST_ROWS);
            System.arraycopy(other.bookCounts, 0, bookCounts, 0, MOST_ROWS);
            bookSize = other.bookSize;
        }

        /** How many vanished at a DOOR together; NONE, if it is not told. */
        int vanishedAt(int door) {
            int together = NONE;
            for (int k = 0; k < bookSize; k++) {
                if (bookDoors[k] == door) {
                    together = Math.max(together, 0) + bookCounts[k];
                }
            }
            return together;
        }
    }

    /** What HOURS change; and what they came to. */
    private static final class World {
        final int[] standing = new int[DOORS];
        final int[] at = new int[MOST_PEOPLE];
        int hour = 0;
        int sky = FINE;
        int costs = 0;
        int wets = 0;
        int gone = 0;

        /** Of one HOUR alone: what is carried to each DOOR, and the ways on which one TOOK one, as bits. */
        private final int[] coming = new int[DOORS];
        private int shelteredWays = 0;

        void copyFrom(World other) {
            for (int door = 0; door < DOORS; door++) {
                standing[door] = other.standing[door];
            }
            for (int k = 0; k < MOST_PEOPLE; k++) {
                at[k] = other.at[k];
            }
            hour = other.hour;
            sky = other.sky;
            costs = other.costs;
            wets = other.wets;
            gone = other.gone;
        }

        void forgetTallies() {
            costs = 0;
            wets = 0;
            gone = 0;
        }

        void layStands(int s0, int s1, int s2, int s3) {
            standing[0] = s0;
            standing[1] = s1;
            standing[2] = s2;
            standing[3] = s3;
        }

        int standingInAll() {
            return standing[0] + standing[1] + standing[2] + standing[3];
        }

        boolean wouldTake(Walker one, Town town, int itsSky) {
            return standing[at[one.number]] > 0 && one.wants(this, town, itsSky);
        }

        /** AN HOUR with its SKY. */
        void pass(State all, int itsSky) {
            sky = itsSky;
            shelteredWays = 0;
            for (int k = 0; k < all.peopleSize; k++) {
                Walker one = all.people[k];
                int step = all.steps[k];
                if (one != null && step > 0 && hour % step == 0) {
                    walk(one, all.holding);
                }
            }
            putDown();
            hour++;
        }

        private void walk(Walker one, Town town) {
            int from = at[one.number];
            int to = one.otherDoor(from);
            int way = 1 << (from * DOORS + to);
            int stood = standing[from];
            if (stood > 0 && one.wants(this, town, sky)) {
                standing[from] = stood - 1;
                shelteredWays |= way;
                if (sky == FINE) {
                    costs += town.carry;
                }
                if (town.loses(hour, sky, one.number, from, stood)) {
                    gone++;
                } else {
                    coming[to]++;
                }
            } else if (sky == RAIN && !(one.shares() && (shelteredWays & way) != 0)) {
                wets++;
                costs += town.wet;
            }
            at[one.number] = to;
        }

        private void putDown() {
            for (int door = 0; door < DOORS; door++) {
                int brought = standing[door] + coming[door];
                standing[door] = Math.min(brought, MOST_STANDING);
                gone += brought - standing[door];
                coming[door] = 0;
            }
        }

        /** The CART goes once: how many it moves. */
        int moveCart(int load) {
            int most = 0;
            int fewest = 0;
            for (int door = 1; door < DOORS; door++) {
                if (standing[door] > standing[most]) {
                    most = door;
                }
                if (standing[door] < standing[fewest]) {
                    fewest = door;
                }
            }
            if (most == fewest) {
                return 0;
            }
            int room = MOST_STANDING - standing[fewest];
            int moved = Math.min(load, Math.min(standing[most], room));
            standing[most] -= moved;
            standing[fewest] += moved;
            return moved;
        }
    }

    /** A TOWN, and how it is read; a new one is without CLAUSES. */
    private static final class Town {
        private static final int RAIN_WORD = 0, WET_WORD = 1, CARRY_WORD = 2, LOST_WORD = 3, CART_WORD = 4, WORDS = 5;
        private static final int NOT = -1, AND = -2, OR = -3, COMPARISONS = 3, KNOWN = 5, UNKNOWN = 99;
        private static final String NAMES = "shpdu", SIGNS = "<=>";

        int wet = 9;
        int carry = 1;
        int carted = 2;

        /** By the HOUR modulo 24 and the SKY ahead of it: nothing else decides of RAIN. */
        private final int[] rains = new int[HOURS_OF_DAY * 2];
        private final int[] lostEvery = new int[MOST_CLAUSES];
        private final int[] lostFrom = new int[MOST_CLAUSES];
        private final int[] lostTo = new int[MOST_CLAUSES];
        private int losts = 0;

        /** The E of all CLAUSES, each turned so that !, & and | come behind what they join. */
        private final int[] code = new int[MOST_BYTES];
        private int codeSize = 0;
        private final int[] facts = new int[KNOWN];

        private byte[] text = null;
        private int size = 0;
        private int place = 0;

        int rainOf(int hour, int skyAhead) {
            return rains[hour % HOURS_OF_DAY * 2 + skyAhead];
        }

        /** Whether what one TOOK is gone on the way. */
        boolean loses(int hour, int sky, int person, int door, int stood) {
            for (int k = 0; k < losts; k++) {
                int every = lostEvery[k];
                if (every > 0 && (hour + 1) % every == 0) {
                    layFacts(sky, hour % HOURS_OF_DAY, person, door, stood);
                    if (holds(lostFrom[k], lostTo[k])) {
                        return true;
                    }
                }
            }
            return false;
        }

        private void layFacts(int s, int h, int p, int d, int u) {
            facts[0] = s;
            facts[1] = h;
            facts[2] = p;
            facts[3] = d;
            facts[4] = u;
        }

        /** Whether an E holds: what is known so far stands as bits, the latest lowest. */
        private boolean holds(int from, int to) {
            int bits = 0;
            for (int k = from; k < to; k++) {
                int op = code[k];
                int last = bits & 1;
                if (op == NOT) {
                    bits ^= 1;
                } else if (op == AND) {
                    bits = bits >>> 1 & (last | ~1);
                } else if (op == OR) {
                    bits = bits >>> 1 | last;
                } else {
                    bits = bits << 1 | (testHolds(op) ? 1 : 0);
                }
            }
            return (bits & 1) == 1;
        }

        private boolean testHolds(int op) {
            int fact = facts[op / COMPARISONS % KNOWN];
            int number = op / (COMPARISONS * KNOWN);
            switch (op % COMPARISONS) {
                case 0: return fact < number;
                case 1: return fact == number;
                default: return fact > number;
            }
        }

        // ---- how it is read: each reads on while a TOWN can go on, and leaves the place at the first byte with which none can

        /** The FAULT; NONE, if it is a TOWN. */
        int readFrom(byte[] tape, int tapeSize) {
            text = tape;
            size = tapeSize;
            for (int k = 0; k < MOST_CLAUSES; k++) {
                if (!readClause()) {
                    return place;
                }
                if (place >= size) {
                    return NONE;
                }
                if (k + 1 < MOST_CLAUSES && !skip(';')) {
                    return place;
                }
            }
            return place;
        }

        private boolean readClause() {
            int word = readWord();
            if (word == NONE || !skip(' ')) {
                return false;
            }
            int n = readNumber();
            if (n == NONE) {
                return false;
            }
            int from = codeSize;
            if ((word == RAIN_WORD || word == LOST_WORD) && !(skip(' ') && readEither(0))) {
                return false;
            }
            keepClause(word, n, from);
            return true;
        }

        private void keepClause(int word, int n, int from) {
            switch (word) {
                case RAIN_WORD:
                    addRain(n, from);
                    break;
                case WET_WORD:
                    wet = n;
                    break;
                case CARRY_WORD:
                    carry = n;
                    break;
                case CART_WORD:
                    carted = n;
                    break;
                default:
                    addLost(n, from);
                    break;
            }
        }

        private void addRain(int n, int from) {
            for (int k = 0; k < rains.length; k++) {
                layFacts(k % 2, k / 2, UNKNOWN, UNKNOWN, UNKNOWN);
                if (holds(from, codeSize)) {
                    rains[k] = Math.min(rains[k] + n, TENTHS);
                }
            }
        }

        private void addLost(int n, int from) {
            if (losts < MOST_CLAUSES) {
                lostEvery[losts] = n;
                lostFrom[losts] = from;
                lostTo[losts] = codeSize;
                losts++;
            }
        }

        private int readWord() {
            int furthest = 0;
            for (int word = 0; word < WORDS; word++) {
                String name = wordOf(word);
                int alike = alikeWith(name);
                if (alike == name.length()) {
                    place += alike;
                    return word;
                }
                furthest = Math.max(furthest, alike);
            }
            place += furthest;
            return NONE;
        }

        private static String wordOf(int word) {
            switch (word) {
                case RAIN_WORD: return "rain";
                case WET_WORD: return "wet";
                case CARRY_WORD: return "carry";
                case LOST_WORD: return "lost";
                default: return "cart";
            }
        }

        /** With how many bytes of a word the text goes on. */
        private int alikeWith(String name) {
            int alike = 0;
            while (alike < name.length() && byteAt(place + alike) == name.charAt(alike)) {
                alike++;
            }
            return alike;
        }

        private int readNumber() {
            int first = byteAt(place) - '0';
            if (first < 0 || first > 9) {
                return NONE;
            }
            place++;
            int second = byteAt(place) - '0';
            // a digit behind a 0 is left standing: nothing can go on with it
            if (first == 0 || second < 0 || second > 9) {
                return first;
            }
            place++;
            return first * 10 + second;
        }

        private boolean readEither(int open) {
            if (!readBoth(open)) {
                return false;
            }
            for (int k = 0; k < MOST_BYTES && skip('|'); k++) {
                if (!readBoth(open) || !put(OR)) {
                    return false;
                }
            }
            return true;
        }

        private boolean readBoth(int open) {
            if (!readSingle(open)) {
                return false;
            }
            for (int k = 0; k < MOST_BYTES && skip('&'); k++) {
                if (!readSingle(open) || !put(AND)) {
                    return false;
                }
            }
            return true;
        }

        private boolean readSingle(int open) {
            if (open < MOST_OPEN && skip('!')) {
                return readSingle(open + 1) && put(NOT);
            }
            if (open < MOST_OPEN && skip('(')) {
                return readEither(open + 1) && skip(')');
            }
            return readTest();
        }

        private boolean readTest() {
            int name = NAMES.indexOf((char) byteAt(place));
            if (name < 0) {
                return false;
            }
            place++;
            int sign = SIGNS.indexOf((char) byteAt(place));
            if (sign < 0) {
                return false;
            }
            place++;
            int number = readNumber();
            return number != NONE && put((number * KNOWN + name) * COMPARISONS + sign);
        }

        private boolean skip(char sign) {
            if (byteAt(place) != sign) {
                return false;
            }
            place++;
            return true;
        }

        /** 0, which stands in no TOWN, behind the end. */
        private int byteAt(int index) {
            return text != null && index >= 0 && index < size && index < text.length ? text[index] & 255 : 0;
        }

        private boolean put(int op) {
            if (codeSize >= code.length) {
                return false;
            }
            code[codeSize] = op;
            codeSize++;
            return true;
        }
    }

    /** THE TRACE: the numbers of the bodies that ran in the latest act. */
    private static final class Trace {
        final int[] numbers = new int[MOST_TRACED];
        int ran = 0;

        void began(int body) {
            if (ran < MOST_TRACED) {
                numbers[ran] = body;
            }
            ran++;
        }
    }

    /** One of the PEOPLE; KIND 0, and what the KINDS under it do as it does. */
    private static class Walker {
        final int kind;
        final int number;
        final int a;
        final int b;
        int v;

        Walker(int kind, int number, int v, int a, int b) {
            this.kind = kind;
            this.number = number;
            this.v = v;
            this.a = a;
            this.b = b;
        }

        int otherDoor(int door) {
            return door == a ? b : a;
        }

        /** Whether it TAKES one in this HOUR of a world, if there is one. */
        boolean wants(World world, Town town, int sky) {
            return sky == RAIN;
        }

        boolean shares() {
            return false;
        }

        int takes(int x, Trace trace) {
            trace.began(1);
            return x + number;
        }

        int walks(int x, Trace trace) {
            trace.began(2);
            return takes(x, trace) - v;
        }

        int tells(int x, Trace trace) {
            trace.began(3);
            return walks(x, trace) * 2;
        }
    }

    private static class Ahead extends Walker {
        Ahead(int kind, int number, int v, int a, int b) {
            super(kind, number, v, a, b);
        }

        boolean wants(World world, Town town, int sky) {
            return sky == RAIN || town.rainOf(world.hour + 1, sky) >= v;
        }

        int takes(int x, Trace trace) {
            trace.began(11);
            return super.takes(x * 3, trace);
        }
    }

    private static class Back extends Walker {
        Back(int kind, int number, int v, int a, int b) {
            super(kind, number, v, a, b);
        }

        boolean wants(World world, Town town, int sky) {
            int here = world.at[number];
            int stood = world.standing[here];
            return sky == RAIN || stood >= v && stood > world.standing[otherDoor(here)];
        }

        int walks(int x, Trace trace) {
            trace.began(21);
            return -super.walks(x, trace);
        }
    }

    private static final class Hardy extends Walker {
        Hardy(int kind, int number, int v, int a, int b) {
            super(kind, number, v, a, b);
        }

        boolean wants(World world, Town town, int sky) {
            return sky == RAIN && world.hour % 10 != v;
        }

        int tells(int x, Trace trace) {
            trace.began(31);
            return super.tells(x, trace) ^ 7;
        }
    }

    private static final class Always extends Ahead {
        Always(int kind, int number, int v, int a, int b) {
            super(kind, number, v, a, b);
        }

        boolean wants(World world, Town town, int sky) {
            return true;
        }

        int tells(int x, Trace trace) {
            trace.began(41);
            int told = super.tells(x - 1, trace);
            return told + takes(2, trace);
        }
    }

    private static final class Sharing extends Back {
        Sharing(int kind, int number, int v, int a, int b) {
            super(kind, number, v, a, b);
        }

        boolean shares() {
            return true;
        }

        int takes(int x, Trace trace) {
            trace.began(51);
            return super.takes(x, trace) ^ number;
        }
    }

    private static final class Faithful extends Back {
        Faithful(int kind, int number, int v, int a, int b) {
            super(kind, number, v, a, b);
        }

        boolean wants(World world, Town town, int sky) {
            boolean lastOfAStand = world.standing[world.at[number]] == 1;
            return super.wants(world, town, sky) && !(sky == FINE && lastOfAStand);
        }

        int walks(int x, Trace trace) {
            trace.began(61);
            return super.walks(x, trace) + v;
        }
    }
}
