/** The edges that the document names of people and hours (promises 6 to 11): each sentence with a test of its own. */
public final class HourEdgesTest {
    private static final Check CHECK = new Check();
    private static final int MIN = Integer.MIN_VALUE, MAX = Integer.MAX_VALUE;
    private static final int WALKER = 0, AHEAD = 1, BACK = 2, HARDY = 3, ALWAYS = 4, SHARING = 5, FAITHFUL = 6;

    public static void main(String[] args) {
        kindsZeroToSix();
        doorsAsDigits();
        vZeroToNine();
        sixAtMost();
        stepOneToNine();
        multiplesOfThat();
        ofWhat();
        ifThereIsOne();
        aheadVOrMore();
        aheadOfTheHourBehind();
        backVOrMoreAndMore();
        hardyModuloTen();
        faithfulNeverTheLast();
        byNumbers();
        sharingGoesAlong();
        nineStandThere();
        lostByN();
        lostByFacts();
        costs();
        goRefused();
        rowOf20();
        handOfAsMany();
        handOfGone();
        CHECK.end();
    }

    // ---- promise 6

    private static void kindsZeroToSix() {
        CHECK.part("NONE: kind");
        int[] none = {-1, 7, MIN, MAX};
        for (int kind : none) {
            CHECK.due("person(" + kind + ", 0, 1)", new UmbrellaDoors().person(kind, 0, 1), -1);
        }
        for (int kind = 0; kind <= 6; kind++) {
            UmbrellaDoors x = new UmbrellaDoors();
            CHECK.due("person(" + kind + ", 0, 1)", x.person(kind, 0, 1), 0);
            CHECK.due("KIND", x.of(0, 0), kind);
        }
    }

    private static void doorsAsDigits() {
        CHECK.part("doors: 10 times a, and b; NONE: doors; BAD: a is b; each is at a first");
        for (int doors = -45; doors <= 145; doors++) {
            UmbrellaDoors x = new UmbrellaDoors();
            int a = doors / 10;
            int b = doors % 10;
            boolean there = doors >= 0 && a < 4 && b < 4;
            int want = !there ? -1 : a == b ? -2 : 0;
            CHECK.due("person(0, 0, " + doors + ")", x.person(WALKER, 0, doors), want);
            CHECK.due("a", x.of(0, 2), want == 0 ? a : -1);
            CHECK.due("b", x.of(0, 3), want == 0 ? b : -1);
            CHECK.due("at", x.of(0, 4), want == 0 ? a : -1);
        }
        CHECK.due("min", new UmbrellaDoors().person(WALKER, 0, MIN), -1);
        CHECK.due("max", new UmbrellaDoors().person(WALKER, 0, MAX), -1);
    }

    private static void vZeroToNine() {
        CHECK.part("a number v (0 .. 9); BAD: v");
        int[] bad = {-1, 10, MIN, MAX};
        for (int v : bad) {
            CHECK.due("person(0, " + v + ", 1)", new UmbrellaDoors().person(WALKER, v, 1), -2);
        }
        for (int v = 0; v <= 9; v++) {
            UmbrellaDoors x = new UmbrellaDoors();
            CHECK.due("person(0, " + v + ", 1)", x.person(WALKER, v, 1), 0);
            CHECK.due("v", x.of(0, 1), v);
        }
    }

    private static void sixAtMost() {
        CHECK.part("PEOPLE are numbered from 0 on, 6 at most; FULL");
        UmbrellaDoors x = new UmbrellaDoors();
        for (int k = 0; k < 6; k++) {
            CHECK.due("a refused one has no number", x.person(WALKER, 10, 1), -2);
            CHECK.due("its number", x.person(k, k, 12), k);
            CHECK.due("how many", x.count(0), k + 1);
        }
        CHECK.due("a seventh", x.person(WALKER, 0, 1), -4);
        CHECK.due("how many", x.count(0), 6);
        CHECK.due("the last one", x.of(5, 1), 5);
        CHECK.due("none behind it", x.of(6, 0), -1);
    }

    // ---- promise 7

    private static void stepOneToNine() {
        CHECK.part("a STEP (1 .. 9; 1 at first): what it was. NONE; BAD.");
        UmbrellaDoors x = new UmbrellaDoors();
        CHECK.due("nobody", x.step(0, 1), -1);
        x.person(WALKER, 0, 1);
        CHECK.due("at first", x.of(0, 5), 1);
        int was = 1;
        for (int n = 1; n <= 9; n++) {
            CHECK.due("step(0, " + n + ")", x.step(0, n), was);
            CHECK.due("STEP", x.of(0, 5), n);
            was = n;
        }
        int[] bad = {0, 10, -1, MIN, MAX};
        for (int n : bad) {
            CHECK.due("step(0, " + n + ")", x.step(0, n), -2);
        }
        int[] none = {-1, 1, 6, MIN, MAX};
        for (int person : none) {
            CHECK.due("step(" + person + ", 1)", x.step(person, 1), -1);
        }
        CHECK.due("STEP", x.of(0, 5), 9);
    }

    private static void multiplesOfThat() {
        CHECK.part("in HOURS whose numbers are multiples of that it goes to its other one");
        for (int step = 1; step <= 9; step++) {
            UmbrellaDoors x = new UmbrellaDoors();
            x.person(WALKER, 0, 31);
            x.step(0, step);
            int walks = 0;
            for (int hour = 0; hour < 30; hour++) {
                boolean goes = hour % step == 0;
                CHECK.due("WET in HOUR " + hour + " by " + step, x.go(1), goes ? 9 : 0);
                walks += goes ? 1 : 0;
                CHECK.due("at", x.of(0, 4), walks % 2 == 1 ? 1 : 3);
            }
        }
    }

    // ---- promise 8

    private static void ofWhat() {
        CHECK.part("Of one of the PEOPLE what 0 .. 7. NONE.");
        UmbrellaDoors x = new UmbrellaDoors();
        x.person(FAITHFUL, 8, 23);
        int[] want = {6, 8, 2, 3, 2, 1, 0, 0};
        for (int what = 0; what < want.length; what++) {
            CHECK.due("of(0, " + what + ")", x.of(0, what), want[what]);
            CHECK.due("of(1, " + what + ")", x.of(1, what), -1);
            CHECK.due("of(-1, " + what + ")", x.of(-1, what), -1);
            CHECK.due("of(max, " + what + ")", x.of(MAX, what), -1);
            CHECK.due("of(min, " + what + ")", x.of(MIN, what), -1);
        }
        int[] none = {-1, 8, MIN, MAX};
        for (int what : none) {
            CHECK.due("of(0, " + what + ")", x.of(0, what), -1);
        }
    }

    private static void ifThereIsOne() {
        CHECK.part("one TAKES an UMBRELLA from the STAND where it is, if there is one");
        for (int kind = 0; kind <= 6; kind++) {
            UmbrellaDoors x = new UmbrellaDoors();
            x.person(kind, kind == HARDY ? 9 : 0, 12);
            Check.stands(x, 9, 0, 9, 9);
            CHECK.due("none there, FINE, KIND " + kind, x.of(0, 6), 0);
            CHECK.due("none there, RAIN, KIND " + kind, x.of(0, 7), 0);
            CHECK.due("WET, KIND " + kind, x.go(1), 9);
            CHECK.due("nothing moves", Check.standing(x), 9099);
            x = new UmbrellaDoors();
            x.person(kind, kind == HARDY ? 9 : 0, 12);
            x.stand(1, 1);
            CHECK.due("one there, RAIN, KIND " + kind, x.of(0, 7), 1);
            CHECK.due("dry, KIND " + kind, x.go(1), 0);
            CHECK.due("it moves", Check.standing(x), 10);
            CHECK.due("its STEP does not matter", x.step(0, 9), 1);
            CHECK.due("in HOUR 1, KIND " + kind, x.of(0, 7), 1);
        }
    }

    private static void aheadVOrMore() {
        CHECK.part("AHEAD: as WALKER, or if RAIN of the HOUR behind this one is v or more");
        for (int v = 0; v <= 9; v++) {
            for (int rain = 0; rain <= 11; rain++) {
                UmbrellaDoors x = Check.in("rain " + rain + " h=1");
                x.person(AHEAD, v, 1);
                x.stand(0, 1);
                CHECK.due("FINE, RAIN " + rain + ", v " + v, x.of(0, 6), rain >= v ? 1 : 0);
                CHECK.due("RAIN, RAIN " + rain + ", v " + v, x.of(0, 7), 1);
            }
        }
    }

    private static void aheadOfTheHourBehind() {
        CHECK.part("RAIN of the HOUR behind this one (its SKY being ahead of that)");
        UmbrellaDoors x = Check.in("rain 5 h=0");
        x.person(AHEAD, 5, 1);
        for (int hour = 0; hour < 60; hour++) {
            x.stand(hour % 2, 1);
            CHECK.due("FINE in HOUR " + hour, x.of(0, 6), hour % 24 == 23 ? 1 : 0);
            x.go(0);
        }
        x = Check.in("rain 5 s=1");
        x.person(AHEAD, 5, 1);
        x.stand(0, 2);
        x.stand(1, 2);
        x.go(1);
        CHECK.due("behind rain, if it were FINE", x.of(0, 6), 0);
        x = Check.in("rain 5 s=0");
        x.person(AHEAD, 5, 1);
        x.stand(0, 2);
        x.stand(1, 2);
        x.go(1);
        CHECK.due("behind rain, if it were FINE, RAIN behind FINE", x.of(0, 6), 1);
    }

    private static void backVOrMoreAndMore() {
        CHECK.part("BACK: if there stand v or more, and more than at the DOOR to which it goes");
        for (int kind : new int[] {BACK, SHARING, FAITHFUL}) {
            for (int v = 0; v <= 9; v++) {
                for (int there = 0; there <= 9; there++) {
                    UmbrellaDoors x = new UmbrellaDoors();
                    x.person(kind, v, 30);
                    x.stand(0, there);
                    for (int here = 0; here <= 9; here++) {
                        x.stand(3, here);
                        boolean carries = here > 0 && here >= v && here > there && !(kind == FAITHFUL && here == 1);
                        CHECK.due("FINE, v " + v + ", " + here + " and " + there, x.of(0, 6), carries ? 1 : 0);
                        CHECK.due("RAIN, v " + v + ", " + here + " and " + there, x.of(0, 7), here > 0 ? 1 : 0);
                    }
                }
            }
        }
    }

    private static void hardyModuloTen() {
        CHECK.part("HARDY: as WALKER, but not in HOURS whose number modulo 10 is v");
        for (int v = 0; v <= 9; v++) {
            UmbrellaDoors x = new UmbrellaDoors();
            x.person(HARDY, v, 1);
            Check.stands(x, 9, 9, 0, 0);
            for (int hour = 0; hour < 32; hour++) {
                CHECK.due("RAIN in HOUR " + hour + ", v " + v, x.of(0, 7), hour % 10 == v ? 0 : 1);
                CHECK.due("FINE in HOUR " + hour + ", v " + v, x.of(0, 6), 0);
                x.go(0);
            }
        }
    }

    private static void faithfulNeverTheLast() {
        CHECK.part("FAITHFUL: as BACK, but never the last one of a STAND in a FINE HOUR");
        UmbrellaDoors x = new UmbrellaDoors();
        x.person(FAITHFUL, 0, 1);
        x.person(FAITHFUL, 0, 1);
        x.stand(0, 2);
        CHECK.due("the first of two goes", x.go(0), 1);
        CHECK.due("the last one stays", Check.standing(x), 1100);
        x = new UmbrellaDoors();
        x.person(FAITHFUL, 0, 1);
        x.person(FAITHFUL, 0, 1);
        x.stand(0, 2);
        CHECK.due("in RAIN the last one goes too", x.go(1), 0);
        CHECK.due("both are there", Check.standing(x), 200);
    }

    // ---- promise 9

    private static void byNumbers() {
        CHECK.part("all whose STEP says so WALK by numbers (each by how STANDS are then)");
        for (int standing = 0; standing <= 7; standing++) {
            UmbrellaDoors x = new UmbrellaDoors();
            for (int k = 0; k < 6; k++) {
                x.person(WALKER, 0, 1);
            }
            x.stand(0, standing);
            int taken = Math.min(6, standing);
            CHECK.due("WET of " + standing, x.go(1), 9 * (6 - taken));
            CHECK.due("left at 0", x.hand(0, 2), standing - taken);
            CHECK.due("brought to 1", x.hand(0, 3), taken);
        }
        // the last one of the numbers finds none: only it loses what it would carry back
        UmbrellaDoors x = Check.in("lost 1 p=1");
        x.person(WALKER, 0, 1);
        x.person(WALKER, 0, 1);
        x.stand(0, 1);
        CHECK.due("1 is WET", x.go(1), 9);
        CHECK.due("0 lost none", x.count(1), 1);
        // BACK by what the one ahead of it left
        x = new UmbrellaDoors();
        x.person(ALWAYS, 0, 1);
        x.person(BACK, 3, 1);
        x.stand(0, 3);
        CHECK.due("two are left of three", x.go(0), 1);
    }

    /** COSTS of a HOUR of RAIN: two of the PEOPLE, the first one's KIND and doors told; so many stand at each DOOR. */
    private static int along(int kind, int doors, int v, int s0, int s1, int s2) {
        UmbrellaDoors x = new UmbrellaDoors();
        x.person(kind, v, doors);
        x.person(SHARING, 0, 1);
        Check.stands(x, s0, s1, s2, 0);
        return x.go(1);
    }

    private static void sharingGoesAlong() {
        CHECK.part("SHARING: goes along DRY, if one ahead of it did so from the same DOOR to the same DOOR and TOOK one");
        CHECK.due("the same DOORS, it TOOK one", along(WALKER, 1, 0, 1, 0, 0), 0);
        CHECK.due("none stood", along(WALKER, 1, 0, 0, 9, 9), 18);
        CHECK.due("HARDY TOOK none, SHARING takes it", along(HARDY, 1, 0, 1, 0, 0), 9);
        CHECK.due("to another DOOR", along(WALKER, 2, 0, 1, 0, 0), 9);
        CHECK.due("from another DOOR", along(WALKER, 21, 0, 0, 0, 1), 9);
        CHECK.due("the other way", along(WALKER, 10, 0, 0, 1, 0), 9);
        CHECK.due("SHARING ahead of SHARING", along(SHARING, 1, 0, 1, 0, 0), 0);
        // what goes along TOOK none: a third one by the first one
        UmbrellaDoors x = new UmbrellaDoors();
        for (int k = 0; k < 6; k++) {
            x.person(SHARING, 0, 1);
        }
        x.stand(0, 1);
        CHECK.due("all by one", x.go(1), 0);
        CHECK.due("one came along", Check.standing(x), 100);
        // one behind it does not help
        x = new UmbrellaDoors();
        x.person(SHARING, 0, 1);
        x.person(WALKER, 0, 1);
        CHECK.due("none stands", x.go(1), 18);
        // one whose STEP says no did not WALK
        x = new UmbrellaDoors();
        x.person(WALKER, 0, 1);
        x.person(SHARING, 0, 10);
        x.step(0, 2);
        x.go(0);
        x.stand(1, 0);
        x.stand(0, 1);
        x.go(0);
        x.stand(0, 0);
        x.stand(1, 1);
        CHECK.due("both at 1, one stands there", x.go(1), 0);
        x.stand(0, 0);
        x.stand(1, 0);
        CHECK.due("HOUR 3: the WALKER stays; SHARING is WET", x.go(1), 9);
        // BACK does not share
        x = new UmbrellaDoors();
        x.person(WALKER, 0, 1);
        x.person(FAITHFUL, 0, 1);
        x.stand(0, 1);
        CHECK.due("FAITHFUL goes not along", x.go(1), 9);
    }

    private static void nineStandThere() {
        CHECK.part("behind all that WALK in this HOUR (by numbers; if 9 stand there, it is gone)");
        for (int there = 5; there <= 9; there++) {
            UmbrellaDoors x = new UmbrellaDoors();
            for (int k = 0; k < 3; k++) {
                x.person(ALWAYS, 0, 1);
            }
            Check.stands(x, 4, there, 0, 0);
            x.row(0);
            CHECK.due("gone by " + there, x.hand(1, 6), Math.max(0, there + 3 - 9));
            x.go(0);
            CHECK.due("left", x.stand(0, 0), 1);
            CHECK.due("there", x.stand(1, 0), Math.min(9, there + 3));
        }
        // one that goes away ahead of that makes room
        UmbrellaDoors x = new UmbrellaDoors();
        x.person(ALWAYS, 0, 1);
        x.person(ALWAYS, 0, 1);
        x.person(ALWAYS, 0, 10);
        Check.stands(x, 2, 9, 0, 0);
        x.row(0);
        CHECK.due("one of two has room", x.hand(1, 6), 1);
        x.go(0);
        CHECK.due("standing", Check.standing(x), 1900);
        // one that is lost needs no room
        x = Check.in("lost 1 p=0");
        x.person(ALWAYS, 0, 1);
        x.person(ALWAYS, 0, 1);
        Check.stands(x, 2, 8, 0, 0);
        x.row(0);
        CHECK.due("one is lost, one has room", x.hand(1, 6), 1);
        x.go(0);
        CHECK.due("standing", Check.standing(x), 900);
    }

    private static void lostByN() {
        CHECK.part("n is above 0, and the number of the HOUR, and 1, is a multiple of n");
        int[] every = {0, 1, 2, 3, 9, 10, 24, 50, 99};
        for (int n : every) {
            UmbrellaDoors x = Check.in("lost " + n + " h<24");
            x.person(ALWAYS, 0, 1);
            for (int hour = 0; hour < 101; hour++) {
                x.stand(hour % 2, 1);
                x.stand(1 - hour % 2, 0);
                x.go(0);
                boolean lost = n > 0 && (hour + 1) % n == 0;
                CHECK.due("left of HOUR " + hour + ", lost " + n, x.count(1), lost ? 0 : 1);
            }
        }
    }

    /** How many of two are gone: both WALK from DOOR 2 to DOOR 1 in HOUR 0, where so many stand. */
    private static int lostOf(String e, int standing) {
        UmbrellaDoors x = Check.in("lost 1 " + e);
        x.person(ALWAYS, 0, 21);
        x.person(ALWAYS, 0, 21);
        x.stand(2, standing);
        x.row(1);
        return x.hand(1, 6);
    }

    private static void lostByFacts() {
        CHECK.part("(s the SKY of this HOUR, h that HOUR, p, d the DOOR from which it goes, u what stood there ahead of its TAKING)");
        CHECK.due("s=1", lostOf("s=1", 2), 2);
        CHECK.due("s=0: the HOUR ahead was FINE", lostOf("s=0", 2), 0);
        CHECK.due("h=0", lostOf("h=0", 2), 2);
        CHECK.due("h=1", lostOf("h=1", 2), 0);
        CHECK.due("p=0", lostOf("p=0", 2), 1);
        CHECK.due("p=1", lostOf("p=1", 2), 1);
        CHECK.due("p>1", lostOf("p>1", 2), 0);
        CHECK.due("d=2", lostOf("d=2", 2), 2);
        CHECK.due("d=1", lostOf("d=1", 2), 0);
        CHECK.due("u=2: the first one", lostOf("u=2", 2), 1);
        CHECK.due("u=1: the second one", lostOf("u=1", 2), 1);
        CHECK.due("u<1: none is taken of none", lostOf("u<1", 2), 0);
        CHECK.due("u>2", lostOf("u>2", 2), 0);
        CHECK.due("u=9", lostOf("u=9", 9), 1);
        CHECK.due("one stands: one is taken, and lost", lostOf("u=1", 1), 1);
        CHECK.due("none stands: none is lost", lostOf("s<2", 0), 0);
        CHECK.due("by two CLAUSES gone once", lostOf("s=1;lost 1 s=1", 2), 2);
        UmbrellaDoors x = Check.in("lost 1 h=0");
        x.person(ALWAYS, 0, 1);
        for (int hour = 0; hour < 50; hour++) {
            x.stand(hour % 2, 1);
            x.stand(1 - hour % 2, 0);
            x.go(0);
            CHECK.due("h modulo 24, HOUR " + hour, x.count(1), hour % 24 == 0 ? 0 : 1);
        }
    }

    private static void costs() {
        CHECK.part("COSTS: wet for each WET one, carry for each that TOOK one in a FINE HOUR");
        for (int n : new int[] {0, 1, 99}) {
            UmbrellaDoors x = Check.in("wet " + n + ";carry " + n + ";lost 1 d=0");
            for (int k = 0; k < 6; k++) {
                x.person(ALWAYS, 0, 1);
            }
            CHECK.due("six WET by " + n, x.go(1), 6 * n);
            x.stand(1, 6);
            CHECK.due("six dry", x.go(1), 0);
            CHECK.due("six carry (and lose) by " + n, x.go(0), 6 * n);
            CHECK.due("gone", x.count(1), 0);
            CHECK.due("none in a FINE HOUR", x.go(0), 0);
        }
    }

    private static void goRefused() {
        CHECK.part("-1002: BAD: sky (0, 1)");
        UmbrellaDoors x = new UmbrellaDoors();
        int[] bad = {-1, 2, MIN, MAX};
        for (int sky : bad) {
            CHECK.due("go(" + sky + ")", x.go(sky), -1002);
        }
        CHECK.due("the HOUR that comes", x.told(4), 0);
        CHECK.due("go(0)", x.go(0), 0);
        CHECK.due("go(1)", x.go(1), 0);
        CHECK.due("the HOUR that comes", x.told(4), 2);
    }

    // ---- promises 10, 11

    private static void rowOf20() {
        CHECK.part("A ROW of SKIES (20 at most); (-1: it is empty then, 0). BAD; FULL: 20.");
        UmbrellaDoors x = new UmbrellaDoors();
        CHECK.due("emptied when empty", x.row(-1), 0);
        int[] bad = {-2, 2, MIN, MAX};
        for (int round = 0; round < 2; round++) {
            for (int k = 1; k <= 20; k++) {
                CHECK.due("row(" + k % 2 + ")", x.row(k % 2), k);
            }
            CHECK.due("a 21st", x.row(1), -4);
            CHECK.due("a 21st", x.row(0), -4);
            for (int sky : bad) {
                CHECK.due("row(" + sky + ")", x.row(sky), -2);
            }
            CHECK.due("SKIES", x.count(3), 20);
            CHECK.due("all of them", x.hand(20, 0), 0);
            CHECK.due("emptied when full", x.row(-1), 0);
            CHECK.due("SKIES", x.count(3), 0);
            CHECK.due("none of them", x.hand(1, 0), -1002);
        }
        for (int sky : bad) {
            CHECK.due("row(" + sky + ")", x.row(sky), -2);
        }
    }

    private static void handOfAsMany() {
        CHECK.part("n HOURS (0 .. as many as the ROW has). -1001: NONE; -1002: BAD.");
        UmbrellaDoors x = new UmbrellaDoors();
        x.person(WALKER, 0, 1);
        for (int size = 0; size <= 20; size++) {
            for (int what = 0; what <= 1; what++) {
                CHECK.due("hand(" + size + ", " + what + ")", x.hand(size, what), what == 0 ? 9 * size : size);
            }
            CHECK.due("one too many", x.hand(size + 1, 0), -1002);
            CHECK.due("one too few", x.hand(-1, 0), -1002);
            x.row(1);
        }
        CHECK.due("max", x.hand(MAX, 0), -1002);
        CHECK.due("min", x.hand(MIN, 0), -1002);
        int[] none = {-1, 7, MIN, MAX};
        for (int what : none) {
            CHECK.due("hand(0, " + what + ")", x.hand(0, what), -1001);
            CHECK.due("hand(21, " + what + ")", x.hand(21, what), -1001);
        }
        // the SKIES in their order
        x = new UmbrellaDoors();
        x.person(WALKER, 0, 1);
        int wet = 0;
        int[] skies = {0, 1, 1, 0, 1, 0, 0, 1};
        for (int k = 0; k < skies.length; k++) {
            x.row(skies[k]);
        }
        for (int k = 0; k < skies.length; k++) {
            wet += skies[k];
            CHECK.due("WET of the first " + (k + 1), x.hand(k + 1, 1), wet);
        }
    }

    private static void handOfGone() {
        CHECK.part("2 .. 5 what stands at DOOR (less 2), 6 UMBRELLAS that are gone");
        UmbrellaDoors x = Check.in("lost 1 p=1");
        x.person(ALWAYS, 0, 1);
        x.person(ALWAYS, 0, 23);
        Check.stands(x, 1, 9, 2, 4);
        x.row(0);
        int[] none = {0, 0, 1, 9, 2, 4, 0};
        int[] one = {2, 0, 0, 9, 1, 4, 2};
        for (int what = 0; what <= 6; what++) {
            CHECK.due("hand(0, " + what + ")", x.hand(0, what), none[what]);
            CHECK.due("hand(1, " + what + ")", x.hand(1, what), one[what]);
        }
        x.go(0);
        // what was gone ahead of now is not counted, and it goes on from where they are
        int[] next = {2, 0, 1, 8, 1, 3, 1};
        for (int what = 0; what <= 6; what++) {
            CHECK.due("from HOUR 1 on: hand(1, " + what + ")", x.hand(1, what), next[what]);
        }
    }
}
