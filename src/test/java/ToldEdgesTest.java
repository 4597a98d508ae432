/** The edges that the document names of what a TOWN tells (promise 5): each sentence with a test of its own. */
public final class ToldEdgesTest {
    private static final Check CHECK = new Check();

    public static void main(String[] args) {
        none();
        withoutATown();
        lastHolds();
        tenAtMost();
        hoursModulo24();
        skyAhead();
        of99();
        lessAlikeMore();
        joined();
        hourThatComes();
        CHECK.end();
    }

    private static void none() {
        CHECK.part("What 0 .. 5. NONE.");
        UmbrellaDoors x = new UmbrellaDoors();
        int[] wrong = {-1, 6, 7, Integer.MIN_VALUE, Integer.MAX_VALUE};
        for (int what : wrong) {
            CHECK.due("told(" + what + ")", x.told(what), -1);
        }
    }

    private static void withoutATown() {
        CHECK.part("without one there are no CLAUSES; wet (9 without), carry (1), cart (2)");
        UmbrellaDoors x = new UmbrellaDoors();
        int[] want = {0, 9, 1, 2, 0, 0};
        for (int what = 0; what < want.length; what++) {
            CHECK.due("told(" + what + ")", x.told(what), want[what]);
        }
        x = Check.in("lost 1 s=1");
        CHECK.due("a TOWN without wet", x.told(1), 9);
        CHECK.due("a TOWN without carry", x.told(2), 1);
        CHECK.due("a TOWN without cart", x.told(3), 2);
        CHECK.due("a TOWN without rain", x.told(0), 0);
    }

    private static void lastHolds() {
        CHECK.part("Of wet, carry, cart the last n holds");
        UmbrellaDoors x = Check.in("wet 99;carry 0;cart 7;wet 0;carry 99;cart 0;rain 1 s=0;cart 99");
        CHECK.due("wet", x.told(1), 0);
        CHECK.due("carry", x.told(2), 99);
        CHECK.due("cart", x.told(3), 99);
        x = Check.in("carry 12;wet 34;cart 56");
        CHECK.due("wet", x.told(1), 34);
        CHECK.due("carry", x.told(2), 12);
        CHECK.due("cart", x.told(3), 56);
    }

    private static void rain(String town, int want) {
        CHECK.due("RAIN in " + town, Check.in(town).told(0), want);
    }

    private static void tenAtMost() {
        CHECK.part("the n of all rain whose E holds, together (10 at most)");
        rain("rain 0 s=0", 0);
        rain("rain 1 s=0", 1);
        rain("rain 9 s=0", 9);
        rain("rain 10 s=0", 10);
        rain("rain 11 s=0", 10);
        rain("rain 99 s=0", 10);
        rain("rain 9 s=0;rain 1 s=0", 10);
        rain("rain 9 s=0;rain 0 s=0", 9);
        rain("rain 9 s=0;rain 2 s=0", 10);
        rain("rain 5 s=0;rain 5 s=0", 10);
        rain("rain 99 s=0;rain 99 s=0;rain 99 s=0", 10);
        rain("rain 4 s=1;rain 5 s=1", 0);
        rain("rain 9 s=1;rain 6 s=0;rain 3 s=0", 9);
    }

    /** RAIN in the HOURS from 0 on, each told FINE, as digits. */
    private static void rains(String town, String want) {
        UmbrellaDoors x = Check.in(town);
        for (int hour = 0; hour < want.length(); hour++) {
            CHECK.due("RAIN of HOUR " + hour + " in " + town, x.told(0), want.charAt(hour) - '0');
            x.go(0);
        }
    }

    private static void hoursModulo24() {
        CHECK.part("h the HOUR modulo 24");
        String day = "100000000000000000000002";
        rains("rain 1 h=0;rain 2 h=23;rain 4 h=24;rain 8 h>23", day + day + day);
        rains("rain 3 h<1;rain 5 h>22", "300000000000000000000005300000000000000000000005");
        rains("rain 7 h=9;rain 6 h=10", "000000000760000000000000000000000760");
    }

    private static void skyAhead() {
        CHECK.part("s the SKY as it was (of rain: in the HOUR ahead)");
        UmbrellaDoors x = Check.in("rain 2 s=0;rain 5 s=1");
        int[] skies = {0, 1, 1, 0, 1, 0};
        CHECK.due("FINE at first", x.told(0), 2);
        for (int sky : skies) {
            x.go(sky);
            CHECK.due("behind " + sky, x.told(0), sky == 0 ? 2 : 5);
            CHECK.due("the SKY", x.told(5), sky);
        }
        rain("rain 1 s>0;rain 2 s<1;rain 3 s=2", 2);
    }

    private static void of99() {
        CHECK.part("(p, d, u of rain: 99, 99, 99)");
        for (String name : new String[] {"p", "d", "u"}) {
            rain("rain 1 " + name + "=99;rain 2 " + name + ">98;rain 4 " + name + "<99", 3);
            rain("rain 1 " + name + "=98;rain 2 " + name + ">99;rain 4 !" + name + "<99", 4);
        }
        // whoever is there, and whatever stands
        UmbrellaDoors x = Check.in("rain 1 p=0;rain 2 d=0;rain 4 u=5");
        x.person(0, 0, 1);
        x.stand(0, 5);
        CHECK.due("RAIN", x.told(0), 0);
        CHECK.due("not WET in the mean", x.mean(1, 1, 0), 1);
    }

    private static void lessAlikeMore() {
        CHECK.part("one of < = >");
        rains("rain 1 h<3", "1110");
        rains("rain 1 h=3", "00010");
        rains("rain 1 h>3", "00001");
        rains("rain 1 h<0;rain 2 h=0;rain 4 h>0", "24");
    }

    private static void joined() {
        CHECK.part("!, &, |, (, )");
        rains("rain 1 h=0|h=1&h=2", "1000");
        rains("rain 1 (h=0|h=1)&h<1", "1000");
        rains("rain 1 h=0&h=1|h=2", "0010");
        rains("rain 1 h<1&h<2&h<3", "1000");
        rains("rain 1 h=0|h=1|h=2", "1110");
        rains("rain 1 h<1&h<2&h>0", "0000");
        rains("rain 1 !h=0&h<3", "0110");
        rains("rain 1 !(h=0&h<3)", "0111");
        rains("rain 1 !h=0|h=0&!h>2", "1111");
        rains("rain 1 !!!!!h=1", "1011");
        rains("rain 1 (((((h=1)))))", "0100");
        rains("rain 1 !(!(!h=1))", "1011");
        rains("rain 1 !(h=0|!(h=1|h=2))", "0110");
        rains("rain 1 h=0&(h=1|h=0)&!(h=1&h=0)", "1000");
        rains("rain 1 h>9|(h=2|h>9&h=1|(h=3))", "0011");
    }

    private static void hourThatComes() {
        CHECK.part("4 the HOUR that comes");
        UmbrellaDoors x = new UmbrellaDoors();
        for (int hour = 0; hour < 200; hour++) {
            CHECK.due("told(4)", x.told(4), hour);
            x.go(hour % 2);
        }
        x.go(2);
        CHECK.due("a refused HOUR does not go by", x.told(4), 200);
        x.mean(8, 0, 0);
        CHECK.due("nor one in thought", x.told(4), 200);
    }
}
