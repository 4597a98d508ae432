/** Promises 12 to 17. */
public final class ChancesTest {
    private static final Check CHECK = new Check();

    public static void main(String[] args) {
        means();
        longMeans();
        leasts();
        starts();
        rules();
        gathers();
        pennies();
        CHECK.end();
    }

    private static void fraction(String name, UmbrellaDoors x, int n, int what, long above, long below) {
        CHECK.due(name + ", above", x.mean(n, what, 0), above);
        CHECK.due(name + ", below", x.mean(n, what, 1), below);
    }

    private static void means() {
        CHECK.part("promise 12");
        UmbrellaDoors x = Check.in("rain 5 s=0;rain 2 s=1");
        fraction("nobody", x, 3, 0, 0, 1);
        fraction("nobody, dry", x, 8, 1, 1, 1);
        x.person(0, 0, 1);
        // wet 9: 1/2 in HOUR 0; then 1/2 of 1/2 and 1/5 of 1/2
        fraction("one hour", x, 1, 0, 9, 2);
        fraction("one hour, dry", x, 1, 1, 1, 2);
        fraction("two hours", x, 2, 0, 153, 20);
        fraction("two hours, dry", x, 2, 1, 1, 4);
        x.go(1);
        fraction("behind rain", x, 1, 0, 9, 5);
        fraction("behind rain, dry", x, 1, 1, 4, 5);
        long no = Long.MIN_VALUE;
        CHECK.due("n 0", x.mean(0, 0, 0), no);
        CHECK.due("n 9", x.mean(9, 0, 0), no);
        CHECK.due("n -1", x.mean(-1, 0, 0), no);
        CHECK.due("what 2", x.mean(1, 2, 0), no);
        CHECK.due("what -1", x.mean(1, -1, 0), no);
        CHECK.due("part 2", x.mean(1, 0, 2), no);
        CHECK.due("part -1", x.mean(1, 0, -1), no);
        CHECK.due("only in thought", x.told(4), 1);
        CHECK.due("only in thought", x.of(0, 4), 1);
        // an umbrella in rain goes along: 1/2 wet at 0 is none; back at 1 by sun
        x = Check.in("rain 5 s<2;wet 10;carry 4");
        x.person(0, 0, 1);
        x.person(4, 0, 12);
        Check.stands(x, 1, 1, 0, 0);
        fraction("carried by half", x, 1, 0, 2, 1);
        // HOUR 1: behind rain both are dry again; behind sun the WALKER has none at 1 in rain; ALWAYS carries by half
        fraction("two hours", x, 2, 0, 13, 2);
        fraction("two hours, dry", x, 2, 1, 3, 4);
        x = Check.in("rain 10 s<2");
        x.person(0, 0, 1);
        fraction("sure rain", x, 2, 0, 18, 1);
        fraction("sure rain, dry", x, 2, 1, 0, 1);
    }

    private static void longMeans() {
        CHECK.part("promise 12, 8 hours");
        UmbrellaDoors x = Check.in("rain 3 s<2;wet 99");
        for (int k = 0; k < 6; k++) {
            x.person(0, 0, 1);
        }
        // 8 times 6 times 99 times 3/10
        fraction("8 hours", x, 8, 0, 7128, 5);
        fraction("8 hours, dry", x, 8, 1, 5764801, 100000000);
        x = Check.in("rain 1 s=0&h=0;rain 7 s=1;rain 9 h=3");
        x.person(0, 0, 1);
        // never rain in the first 4 HOURS: 9/10 of 1/10
        fraction("by the hour", x, 4, 1, 9, 100);
    }

    private static void leasts() {
        CHECK.part("promise 13");
        UmbrellaDoors x = Check.in("rain 5 s<2");
        for (int k = 0; k < 3; k++) {
            x.person(0, 0, 1);
        }
        CHECK.due("three are needed", x.least(1, 0), 3);
        CHECK.due("dry by half", x.least(1, 50), 0);
        CHECK.due("not by half", x.least(1, 49), 3);
        CHECK.due("b 100", x.least(8, 100), 0);
        // k at each DOOR, all there: in two HOURS the same
        CHECK.due("two hours", x.least(2, 0), 3);
        CHECK.due("two hours, a quarter is dry without", x.least(2, 75), 0);
        CHECK.due("two hours, not a quarter", x.least(2, 74), 3);
        x.person(3, 0, 1);
        CHECK.due("HARDY in HOUR 0", x.least(1, 49), -5);
        CHECK.due("HARDY in HOUR 0 by half", x.least(1, 50), 0);
        CHECK.due("n 0", x.least(0, 0), -2);
        CHECK.due("n 9", x.least(9, 0), -2);
        CHECK.due("b 101", x.least(1, 101), -2);
        CHECK.due("b -1", x.least(1, -1), -2);
        CHECK.due("nobody", new UmbrellaDoors().least(8, 0), 0);
        // three a HOUR are lost, at one DOOR in HOURS 0, 2, 4, 6
        UmbrellaDoors losing = Check.in("rain 10 s<2;lost 1 s=1");
        for (int k = 0; k < 3; k++) {
            losing.person(0, 0, 1);
        }
        CHECK.due("nine are needed", losing.least(6, 0), 9);
        CHECK.due("twelve would be", losing.least(7, 0), -5);
        CHECK.due("only in thought", Check.standing(x), 0);
        // what stood is not counted
        Check.stands(x, 9, 9, 9, 9);
        CHECK.due("as if k stood there", x.least(1, 50), 0);
    }

    private static void starts() {
        CHECK.part("promise 14");
        UmbrellaDoors x = Check.in("rain 5 s<2");
        CHECK.due("k 4", x.start(1, 4), -1);
        CHECK.due("k -1", x.start(1, -1), -1);
        CHECK.due("n 0", x.start(0, 0), -2);
        CHECK.due("n 6", x.start(6, 0), -2);
        CHECK.due("NONE ahead of BAD", x.start(6, 4), -1);
        x.stand(0, 6);
        row("nobody: the first as a row", x, 5, 0, 0, 0, 6);
        x.stand(1, 1);
        CHECK.due("7 stand", x.start(1, 0), -9);
        CHECK.due("refused ahead of that", x.start(1, 4), -1);
        CHECK.due("refused ahead of that", x.start(6, 0), -2);
        Check.stands(x, 0, 0, 0, 0);
        x.person(0, 0, 12);
        x.person(0, 0, 12);
        row("none stands", x, 1, 0, 0, 0, 0);
        x.stand(3, 3);
        row("two at 1, the third last", x, 1, 0, 2, 0, 1);
        x.stand(3, 1);
        row("one at 1", x, 1, 0, 1, 0, 0);
        x.person(0, 0, 20);
        row("of several the first", x, 1, 0, 0, 1, 0);
        x.stand(0, 3);
        row("two hours", x, 2, 0, 2, 2, 0);
        CHECK.due("only in thought", Check.standing(x), 3001);
    }

    private static void row(String name, UmbrellaDoors x, int n, int... want) {
        for (int k = 0; k < 4; k++) {
            CHECK.due(name + ", door " + k, x.start(n, k), want[k]);
        }
    }

    private static void rules() {
        CHECK.part("promise 15");
        UmbrellaDoors x = Check.in("rain 5 h=1;wet 9;carry 1");
        CHECK.due("nobody", x.rule(0, 1), -1);
        x.person(1, 9, 1);
        CHECK.due("-1", x.rule(-1, 1), -1);
        CHECK.due("NONE ahead of BAD", x.rule(1, 7), -1);
        CHECK.due("n 0", x.rule(0, 0), -2);
        CHECK.due("n 7", x.rule(0, 7), -2);
        x.stand(0, 1);
        // one HOUR: carrying costs; v 0 .. 5 would carry in HOUR 0
        CHECK.due("one hour", x.rule(0, 1), 6);
        // two HOURS: carried it is dry in HOUR 1; v 1 doesn't carry it back in vain
        CHECK.due("two hours", x.rule(0, 2), 1);
        CHECK.due("v is as it was", x.of(0, 1), 9);
        x.person(2, 4, 1);
        x.stand(0, 0);
        CHECK.due("all the same: the least", x.rule(1, 6), 0);
        CHECK.due("v is as it was", x.of(1, 1), 4);
        x = Check.in("rain 8 h=1");
        x.person(1, 0, 1);
        x.stand(0, 1);
        CHECK.due("only v 9 doesn't carry", x.rule(0, 1), 9);
        x = Check.in("rain 10 s<2");
        x.person(3, 0, 1);
        Check.stands(x, 9, 9, 0, 0);
        CHECK.due("hardy, one hour", x.rule(0, 1), 1);
        CHECK.due("hardy, six hours", x.rule(0, 6), 6);
    }

    private static void gathers() {
        CHECK.part("promise 16");
        UmbrellaDoors x = Check.in("rain 5 s<2");
        CHECK.due("n 0", x.gather(0), -2);
        CHECK.due("n 7", x.gather(7), -2);
        CHECK.due("none: the least", x.gather(1), 0);
        Check.stands(x, 0, 2, 3, 3);
        CHECK.due("of several the least", x.gather(6), 2);
        x.person(0, 0, 21);
        // in the mean 2.5 at 1, 2.5 at 2, 3 at 3
        CHECK.due("in the mean", x.gather(1), 3);
        x.person(0, 0, 31);
        CHECK.due("three each 1/2", x.gather(1), 1);
        x = Check.in("rain 6 s<2");
        x.person(0, 0, 1);
        x.stand(0, 1);
        CHECK.due("six of ten", x.gather(1), 1);
        x = Check.in("rain 5 s<2");
        x.person(0, 0, 1);
        x.stand(0, 1);
        CHECK.due("half and half", x.gather(1), 0);
    }

    private static void pennies() {
        CHECK.part("promise 17");
        UmbrellaDoors x = Check.in("rain 3 s<2;wet 10;carry 1");
        long no = Long.MIN_VALUE;
        CHECK.due("nobody", x.penny(0, 1, 0), no);
        x.person(0, 0, 1);
        CHECK.due("n 0", x.penny(0, 0, 0), no);
        CHECK.due("n 7", x.penny(0, 7, 0), no);
        CHECK.due("part 2", x.penny(0, 1, 2), no);
        CHECK.due("part -1", x.penny(0, 1, -1), no);
        CHECK.due("person -1", x.penny(-1, 1, 0), no);
        CHECK.due("none stands, above", x.penny(0, 6, 0), 0);
        CHECK.due("none stands, below", x.penny(0, 6, 1), 1);
        x.stand(0, 1);
        CHECK.due("a fine day, above", x.penny(0, 1, 0), -7);
        CHECK.due("a fine day, below", x.penny(0, 1, 1), 10);
        // as WALKER: .7 times .3 times 10 = 2.1 and .3 times .7 nothing; as ALWAYS: .7 and .7
        CHECK.due("two hours, above", x.penny(0, 2, 0), 7);
        CHECK.due("two hours, below", x.penny(0, 2, 1), 10);
        CHECK.due("KIND is as it was", x.of(0, 0), 0);
        CHECK.due("as it was", x.as(0, 4), -6);
        x = Check.in("rain 3 s<2");
        x.person(4, 0, 1);
        x.stand(0, 1);
        CHECK.due("one that is ALWAYS", x.penny(0, 6, 0), 0);
        CHECK.due("one that is ALWAYS", x.penny(0, 6, 1), 1);
    }
}
