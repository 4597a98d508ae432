/** The edges that the document names of chances (promises 12 to 17): each sentence with a test of its own. */
public final class ChanceEdgesTest {
    private static final Check CHECK = new Check();
    private static final int MIN = Integer.MIN_VALUE, MAX = Integer.MAX_VALUE;
    private static final long NO = Long.MIN_VALUE;
    private static final int WALKER = 0, AHEAD = 1, BACK = 2, HARDY = 3, ALWAYS = 4;

    public static void main(String[] args) {
        meanOneToEight();
        meanNo();
        lowestTerms();
        dryInNone();
        sureSkies();
        meanPastADay();
        leastRefused();
        leastOfNoLess();
        leastZeroToNine();
        leastInsteadOfWhatStands();
        startRefused();
        sixInAll();
        firstAsARow();
        startAsItWouldBeLeast();
        ruleRefused();
        ruleLeast();
        ruleZeroToNine();
        gatherRefused();
        gatherLeast();
        pennyNo();
        pennyLowestTerms();
        pennyElseAsItIs();
        CHECK.end();
    }

    private static void fraction(String name, UmbrellaDoors x, int n, int what, long above, long below) {
        CHECK.due(name + ": mean(" + n + ", " + what + ", 0)", x.mean(n, what, 0), above);
        CHECK.due(name + ": mean(" + n + ", " + what + ", 1)", x.mean(n, what, 1), below);
    }

    /** One of the PEOPLE between 0 and 1, and what stands there. */
    private static UmbrellaDoors one(String town, int kind, int v, int s0, int s1) {
        UmbrellaDoors x = Check.in(town);
        x.person(kind, v, 1);
        x.stand(0, s0);
        x.stand(1, s1);
        return x;
    }

    // ---- promise 12

    private static void meanOneToEight() {
        CHECK.part("MEAN of n HOURS (1 .. 8)");
        UmbrellaDoors x = one("rain 1 h<24;wet 1", WALKER, 0, 0, 0);
        long[] above = {1, 1, 3, 2, 1, 3, 7, 4};
        long[] below = {10, 5, 10, 5, 2, 5, 10, 5};
        long dry = 1;
        long power = 1;
        for (int n = 1; n <= 8; n++) {
            dry *= 9;
            power *= 10;
            fraction("one of ten", x, n, 0, above[n - 1], below[n - 1]);
            fraction("nine of ten", x, n, 1, dry, power);
        }
    }

    private static void meanNo() {
        CHECK.part("mean: NO");
        UmbrellaDoors x = one("rain 1 h<24", WALKER, 0, 0, 0);
        int[] hours = {0, 9, -1, MIN, MAX};
        int[] others = {-1, 2, MIN, MAX};
        for (int k = 0; k <= 1; k++) {
            for (int n : hours) {
                CHECK.due("mean(" + n + ", " + k + ", " + k + ")", x.mean(n, k, k), NO);
            }
            for (int other : others) {
                CHECK.due("mean(1, " + other + ", " + k + ")", x.mean(1, other, k), NO);
                CHECK.due("mean(1, " + k + ", " + other + ")", x.mean(1, k, other), NO);
            }
        }
    }

    private static void lowestTerms() {
        CHECK.part("a fraction in lowest terms");
        long[] above = {0, 9, 9, 27, 18, 9, 27, 63, 36, 81, 9, 9};
        long[] below = {1, 10, 5, 10, 5, 2, 5, 10, 5, 10, 1, 1};
        for (int rain = 0; rain <= 11; rain++) {
            UmbrellaDoors x = one("rain " + rain + " h<24", WALKER, 0, 0, 0);
            fraction("RAIN " + rain, x, 1, 0, above[rain], below[rain]);
        }
        long[] dryAbove = {1, 9, 4, 7, 3, 1, 2, 3, 1, 1, 0};
        long[] dryBelow = {1, 10, 5, 10, 5, 2, 5, 10, 5, 10, 1};
        for (int rain = 0; rain <= 10; rain++) {
            UmbrellaDoors x = one("rain " + rain + " h<24", WALKER, 0, 0, 0);
            fraction("RAIN " + rain, x, 1, 1, dryAbove[rain], dryBelow[rain]);
        }
        fraction("wet 0", one("rain 7 h<24;wet 0", WALKER, 0, 0, 0), 8, 0, 0, 1);
        fraction("wet 10", one("rain 7 h<24;wet 10", WALKER, 0, 0, 0), 3, 0, 21, 1);
        fraction("wet 50", one("rain 1 h<24;wet 50", WALKER, 0, 0, 0), 1, 0, 5, 1);
        fraction("wet 25", one("rain 1 h<24;wet 25", WALKER, 0, 0, 0), 1, 0, 5, 2);
    }

    private static void dryInNone() {
        CHECK.part("DRY of n HOURS: how likely nobody is WET in any");
        UmbrellaDoors x = Check.in("rain 5 h<24");
        x.person(WALKER, 0, 1);
        x.person(WALKER, 0, 1);
        x.stand(0, 1);
        fraction("one of two is WET", x, 1, 1, 1, 2);
        x.stand(0, 2);
        fraction("none is WET", x, 1, 1, 1, 1);
        // WET in HOUR 1, dry in HOUR 0 and 2: still not DRY
        x = one("rain 10 h<24", WALKER, 0, 1, 0);
        fraction("carried for ever", x, 8, 1, 1, 1);
        x = one("rain 10 h=1", WALKER, 0, 1, 0);
        fraction("HOUR 0", x, 1, 1, 1, 1);
        fraction("WET in HOUR 1", x, 2, 1, 0, 1);
        fraction("and in no other", x, 8, 1, 0, 1);
        fraction("WET once", x, 8, 0, 9, 1);
    }

    private static void sureSkies() {
        CHECK.part("RAIN 0 and RAIN 10 of ten");
        UmbrellaDoors x = one("wet 3;carry 2;rain 10 s=0", ALWAYS, 0, 1, 0);
        // RAIN, FINE, RAIN, FINE ..
        for (int n = 1; n <= 8; n++) {
            fraction("by turns", x, n, 0, n / 2 * 2, 1);
            fraction("by turns", x, n, 1, 1, 1);
        }
        x.go(1);
        for (int n = 1; n <= 8; n++) {
            fraction("FINE ahead", x, n, 0, (n + 1) / 2 * 2, 1);
        }
    }

    private static void meanPastADay() {
        CHECK.part("MEAN past HOUR 23");
        UmbrellaDoors x = one("rain 10 h=0;rain 10 h=23;wet 1", WALKER, 0, 0, 0);
        long[] want = {1, 1, 1, 1, 1, 1, 1, 1};
        for (int n = 1; n <= 8; n++) {
            fraction("from HOUR 0 on", x, n, 0, want[n - 1], 1);
        }
        for (int hour = 0; hour < 22; hour++) {
            x.go(0);
        }
        long[] late = {0, 1, 2, 2, 2, 2, 2, 2};
        for (int n = 1; n <= 8; n++) {
            fraction("from HOUR 22 on", x, n, 0, late[n - 1], 1);
        }
        x.step(0, 6);
        // of HOURS 22 .. 29 it goes in 24 alone
        fraction("by a STEP of 6", x, 8, 0, 1, 1);
        fraction("by a STEP of 6, till HOUR 23", x, 2, 0, 0, 1);
    }

    // ---- promise 13

    private static void leastRefused() {
        CHECK.part("LEAST of n HOURS (1 .. 8) by b (0 .. 100); -5. BAD.");
        UmbrellaDoors x = one("rain 10 h<24", HARDY, 0, 0, 0);
        int[] hours = {0, 9, -1, MIN, MAX};
        for (int n : hours) {
            CHECK.due("least(" + n + ", 0)", x.least(n, 0), -2);
        }
        int[] seldom = {-1, 101, MIN, MAX};
        for (int b : seldom) {
            CHECK.due("least(1, " + b + ")", x.least(1, b), -2);
            CHECK.due("least(8, " + b + ")", x.least(8, b), -2);
        }
        for (int n = 1; n <= 8; n++) {
            CHECK.due("least(" + n + ", 0): -5", x.least(n, 0), -5);
            CHECK.due("least(" + n + ", 99): -5", x.least(n, 99), -5);
            CHECK.due("least(" + n + ", 100)", x.least(n, 100), 0);
        }
    }

    private static void leastOfNoLess() {
        CHECK.part("the least k such that DRY were no less than 100 less b, of 100");
        for (int rain = 0; rain <= 10; rain++) {
            UmbrellaDoors x = one("rain " + rain + " h<24", WALKER, 0, 0, 0);
            for (int b = 0; b <= 100; b++) {
                // with none of them it is DRY in 10 less RAIN of ten
                CHECK.due("RAIN " + rain + ": least(1, " + b + ")", x.least(1, b), 10 * rain <= b ? 0 : 1);
            }
        }
        UmbrellaDoors x = one("rain 5 h<24", WALKER, 0, 0, 0);
        // 1/4, 1/8 = 12.5, 1/256 of all: nothing is cut
        CHECK.due("least(2, 75)", x.least(2, 75), 0);
        CHECK.due("least(2, 74)", x.least(2, 74), 1);
        CHECK.due("least(3, 88)", x.least(3, 88), 0);
        CHECK.due("least(3, 87)", x.least(3, 87), 1);
        CHECK.due("least(8, 100)", x.least(8, 100), 0);
        CHECK.due("least(8, 99)", x.least(8, 99), 1);
    }

    private static void leastZeroToNine() {
        CHECK.part("the least k (0 .. 9); -5: none");
        for (int people = 0; people <= 6; people++) {
            UmbrellaDoors x = Check.in("rain 1 h<24");
            for (int k = 0; k < people; k++) {
                x.person(WALKER, 0, 23);
            }
            CHECK.due("each takes one", x.least(1, 0), people);
        }
        // three are lost in each HOUR of RAIN, by turns at DOOR 0 and 1
        UmbrellaDoors x = Check.in("rain 10 h<24;lost 1 s=1");
        for (int k = 0; k < 3; k++) {
            x.person(WALKER, 0, 1);
        }
        int[] want = {3, 3, 6, 6, 9, 9, -5, -5};
        for (int n = 1; n <= 8; n++) {
            CHECK.due("least(" + n + ", 0)", x.least(n, 0), want[n - 1]);
        }
    }

    private static void leastInsteadOfWhatStands() {
        CHECK.part("if k stood at each DOOR now");
        UmbrellaDoors x = one("rain 1 h<24", WALKER, 0, 9, 9);
        CHECK.due("nothing stands there by that", x.least(1, 0), 1);
        // more would take more back: here k at each DOOR is never more than there
        x = Check.in("rain 10 h=1");
        x.person(BACK, 0, 1);
        Check.stands(x, 9, 0, 0, 0);
        CHECK.due("one at each, also at the other end", x.least(2, 0), 1);
        CHECK.due("as it stood", Check.standing(x), 9000);
    }

    // ---- promise 14

    private static void row(String name, UmbrellaDoors x, int n, int digits) {
        int power = 1000;
        for (int k = 0; k < 4; k++) {
            CHECK.due(name + ": start(" + n + ", " + k + ")", x.start(n, k), digits / power % 10);
            power /= 10;
        }
    }

    private static void startRefused() {
        CHECK.part("BEST START of n HOURS (1 .. 5): what stands at DOOR k; -9. NONE; BAD.");
        UmbrellaDoors x = one("rain 5 h<24", WALKER, 0, 0, 1);
        int[] doors = {-1, 4, MIN, MAX};
        int[] hours = {0, 6, -1, MIN, MAX};
        for (int k : doors) {
            CHECK.due("start(1, " + k + ")", x.start(1, k), -1);
            CHECK.due("start(0, " + k + ")", x.start(0, k), -1);
        }
        for (int n : hours) {
            CHECK.due("start(" + n + ", 0)", x.start(n, 0), -2);
            CHECK.due("start(" + n + ", 3)", x.start(n, 3), -2);
        }
        for (int n = 1; n <= 5; n++) {
            row("one at 0", x, n, 1000);
        }
    }

    private static void sixInAll() {
        CHECK.part("(-9: more than 6 stand in all)");
        UmbrellaDoors x = new UmbrellaDoors();
        for (int standing = 0; standing <= 9; standing++) {
            x.stand(2, standing);
            CHECK.due("start of " + standing, x.start(1, 3), standing > 6 ? -9 : standing);
        }
        Check.stands(x, 2, 2, 1, 1);
        row("6 in all", x, 5, 6);
        Check.stands(x, 2, 2, 1, 2);
        CHECK.due("7 in all", x.start(5, 0), -9);
        Check.stands(x, 9, 9, 9, 9);
        CHECK.due("36 in all", x.start(1, 0), -9);
        Check.stands(x, 0, 0, 0, 0);
        row("none in all", x, 1, 0);
    }

    private static void firstAsARow() {
        CHECK.part("as many UMBRELLAS in all as now; of several the first as a row");
        UmbrellaDoors x = new UmbrellaDoors();
        Check.stands(x, 6, 0, 0, 0);
        row("nobody", x, 1, 6);
        x = Check.in("rain 5 h<24");
        x.person(WALKER, 0, 10);
        Check.stands(x, 3, 0, 2, 1);
        row("one at 1, the others last", x, 1, 105);
        x.person(WALKER, 0, 20);
        x.person(WALKER, 0, 30);
        x.person(WALKER, 0, 1);
        Check.stands(x, 3, 0, 0, 0);
        row("of four DOORS the three last", x, 1, 111);
        Check.stands(x, 2, 0, 0, 0);
        row("the two last", x, 1, 11);
        Check.stands(x, 1, 0, 0, 0);
        row("the last", x, 1, 1);
        Check.stands(x, 0, 0, 0, 4);
        row("one each", x, 1, 1111);
    }

    private static void startAsItWouldBeLeast() {
        CHECK.part("the row of STANDS with which MEAN would be least");
        UmbrellaDoors x = Check.in("rain 10 h<24;wet 5");
        for (int k = 0; k < 6; k++) {
            x.person(WALKER, 0, 1);
        }
        Check.stands(x, 0, 0, 0, 6);
        row("all six at DOOR 0", x, 5, 6000);
        x = Check.in("carry 9;wet 1;rain 1 h<24");
        x.person(ALWAYS, 0, 1);
        x.stand(0, 1);
        row("where nobody is", x, 1, 1);
        x = Check.in("carry 9;wet 1");
        x.person(ALWAYS, 0, 32);
        x.person(ALWAYS, 0, 23);
        x.stand(0, 1);
        row("not where one is", x, 1, 100);
    }

    // ---- promise 15

    private static void ruleRefused() {
        CHECK.part("RULE of one for n HOURS (1 .. 6): v. NONE; BAD.");
        UmbrellaDoors x = one("rain 10 h<24", HARDY, 5, 9, 9);
        int[] people = {-1, 1, 6, MIN, MAX};
        int[] hours = {0, 7, -1, MIN, MAX};
        for (int person : people) {
            CHECK.due("rule(" + person + ", 1)", x.rule(person, 1), -1);
            CHECK.due("rule(" + person + ", 0)", x.rule(person, 0), -1);
        }
        for (int n : hours) {
            CHECK.due("rule(0, " + n + ")", x.rule(0, n), -2);
        }
        // HARDY is WET in HOUR v: the first v beyond the n HOURS
        for (int n = 1; n <= 6; n++) {
            CHECK.due("rule(0, " + n + ")", x.rule(0, n), n);
        }
        CHECK.due("v is as it was", x.of(0, 1), 5);
    }

    private static void ruleLeast() {
        CHECK.part("RULE: of several the least");
        for (int v = 0; v <= 9; v++) {
            UmbrellaDoors x = one("rain 5 h<24", WALKER, v, 1, 1);
            CHECK.due("WALKER has no use of v", x.rule(0, 6), 0);
            CHECK.due("v is as it was", x.of(0, 1), v);
        }
        UmbrellaDoors x = one("rain 10 h<24", HARDY, 0, 9, 9);
        for (int hour = 0; hour < 8; hour++) {
            x.go(1);
        }
        // HOURS 8, 9, 10, 11: v not 8, 9, 0, 1
        CHECK.due("past HOUR 9", x.rule(0, 4), 2);
        CHECK.due("HOURS 8 and 9", x.rule(0, 2), 0);
    }

    private static void ruleZeroToNine() {
        CHECK.part("RULE: the v (0 .. 9) with which, all else as it is, MEAN is least");
        for (int rain = 0; rain <= 9; rain++) {
            // FINE in HOUR 0 for sure: carrying costs, and helps in no HOUR that counts; above RAIN 9 there is no v
            UmbrellaDoors x = one("rain " + rain + " h=1", AHEAD, 0, 1, 0);
            CHECK.due("just above RAIN " + rain, x.rule(0, 1), rain == 9 ? 0 : rain + 1);
        }
        UmbrellaDoors x = one("rain 10 h=1;wet 0", AHEAD, 0, 1, 0);
        CHECK.due("RAIN 10 is above every v", x.rule(0, 1), 0);
        // BACK: to leave 8 of 9 in place v would be 10; 8 standing: 9
        x = one("wet 0", BACK, 0, 8, 0);
        CHECK.due("v 9 of 8 standing", x.rule(0, 1), 9);
        x = one("wet 0", BACK, 0, 9, 0);
        CHECK.due("all alike of 9 standing", x.rule(0, 1), 0);
    }

    // ---- promise 16

    private static void gatherRefused() {
        CHECK.part("GATHER of n HOURS (1 .. 6): the DOOR. BAD.");
        UmbrellaDoors x = one("rain 10 h<24", WALKER, 0, 1, 0);
        int[] hours = {0, 7, -1, MIN, MAX};
        for (int n : hours) {
            CHECK.due("gather(" + n + ")", x.gather(n), -2);
        }
        for (int n = 1; n <= 6; n++) {
            CHECK.due("gather(" + n + ")", x.gather(n), n % 2);
        }
    }

    private static void gatherLeast() {
        CHECK.part("the DOOR at which the most stand behind them in the mean (of several the least)");
        UmbrellaDoors x = new UmbrellaDoors();
        int[] rows = {0, 1111, 1, 11, 111, 122, 1221, 9989, 8999, 909};
        int[] want = {0, 0, 3, 2, 1, 2, 1, 0, 1, 1};
        for (int k = 0; k < rows.length; k++) {
            Check.stands(x, rows[k] / 1000, rows[k] / 100 % 10, rows[k] / 10 % 10, rows[k] % 10);
            CHECK.due("gather(6) of " + rows[k], x.gather(6), want[k]);
        }
        for (int rain = 0; rain <= 10; rain++) {
            x = one("rain " + rain + " h<24", WALKER, 0, 1, 0);
            CHECK.due("RAIN " + rain, x.gather(1), rain > 5 ? 1 : 0);
            x = Check.in("rain " + rain + " h<24");
            x.person(WALKER, 0, 10);
            x.stand(1, 1);
            CHECK.due("RAIN " + rain + ", from 1 to 0", x.gather(1), rain >= 5 ? 0 : 1);
        }
    }

    // ---- promise 17

    private static void pennyNo() {
        CHECK.part("PENNY of one for n HOURS (1 .. 6). NO.");
        UmbrellaDoors x = one("wet 4;carry 3", WALKER, 0, 9, 9);
        int[] people = {-1, 1, 6, MIN, MAX};
        int[] hours = {0, 7, -1, MIN, MAX};
        int[] parts = {-1, 2, MIN, MAX};
        for (int part = 0; part <= 1; part++) {
            for (int person : people) {
                CHECK.due("penny(" + person + ", 1, " + part + ")", x.penny(person, 1, part), NO);
            }
            for (int n : hours) {
                CHECK.due("penny(0, " + n + ", " + part + ")", x.penny(0, n, part), NO);
            }
        }
        for (int part : parts) {
            CHECK.due("penny(0, 1, " + part + ")", x.penny(0, 1, part), NO);
        }
        for (int n = 1; n <= 6; n++) {
            CHECK.due("penny(0, " + n + ", 0)", x.penny(0, n, 0), -3 * n);
            CHECK.due("penny(0, " + n + ", 1)", x.penny(0, n, 1), 1);
        }
    }

    private static void pennyLowestTerms() {
        CHECK.part("PENNY: MEAN as it is, less that if this one were ALWAYS: a fraction in lowest terms");
        long[] above = {-1, -9, -4, -7, -3, -1, -2, -3, -1, -1, 0};
        long[] below = {1, 10, 5, 10, 5, 2, 5, 10, 5, 10, 1};
        for (int rain = 0; rain <= 10; rain++) {
            UmbrellaDoors x = one("rain " + rain + " h<24", WALKER, 0, 1, 0);
            CHECK.due("RAIN " + rain + ", above", x.penny(0, 1, 0), above[rain]);
            CHECK.due("RAIN " + rain + ", below", x.penny(0, 1, 1), below[rain]);
        }
        // FINE, then RAIN for sure: as WALKER 20 in HOUR 1, as ALWAYS 1 in HOUR 0
        UmbrellaDoors x = one("rain 10 h=1;wet 20", WALKER, 0, 1, 0);
        CHECK.due("a gain, above", x.penny(0, 2, 0), 19);
        CHECK.due("a gain, below", x.penny(0, 2, 1), 1);
        // HARDY would be WET in HOUR 0
        x = one("rain 5 h=0;wet 5;carry 5", HARDY, 0, 1, 0);
        CHECK.due("as much as it costs, above", x.penny(0, 1, 0), 0);
        CHECK.due("as much as it costs, below", x.penny(0, 1, 1), 1);
    }

    private static void pennyElseAsItIs() {
        CHECK.part("PENNY: of this one alone, and in thought alone");
        UmbrellaDoors x = Check.in("rain 10 h=1;wet 20;carry 1");
        x.person(WALKER, 3, 1);
        x.person(HARDY, 4, 1);
        x.person(WALKER, 5, 23);
        x.step(1, 2);
        Check.stands(x, 9, 0, 1, 0);
        // 1 goes in HOUR 0 alone, and brings what 0 TAKES in HOUR 1
        CHECK.due("penny(0, 2, 0)", x.penny(0, 2, 0), 19);
        CHECK.due("penny(1, 2, 0)", x.penny(1, 2, 0), 19);
        CHECK.due("penny(2, 2, 0)", x.penny(2, 2, 0), 19);
        int[] kinds = {0, 3, 0};
        for (int k = 0; k < 3; k++) {
            CHECK.due("KIND of " + k, x.of(k, 0), kinds[k]);
            CHECK.due("v of " + k, x.of(k, 1), 3 + k);
            CHECK.due("at of " + k, x.of(k, 4), k == 2 ? 2 : 0);
        }
        CHECK.due("its STEP counts", x.of(1, 5), 2);
        CHECK.due("as it stood", Check.standing(x), 9010);
    }
}
