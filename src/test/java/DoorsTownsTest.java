/** Promises 1 to 5. */
public final class DoorsTownsTest {
    private static final Check CHECK = new Check();

    public static void main(String[] args) {
        newObject();
        stands();
        feeding();
        townsAndNumbers();
        wordsAndFaults();
        expressionFaults();
        openOnes();
        clausesAtMost();
        rainTold();
        CHECK.end();
    }

    private static void newObject() {
        CHECK.part("promise 1");
        UmbrellaDoors x = new UmbrellaDoors();
        for (int what = 0; what <= 6; what++) {
            CHECK.due("count", x.count(what), 0);
        }
        CHECK.due("standing", Check.standing(x), 0);
        CHECK.due("of", x.of(0, 0), -1);
        CHECK.due("told sky", x.told(5), 0);
        CHECK.due("told hour", x.told(4), 0);
        CHECK.due("undo", x.undo(), -3);
        CHECK.due("NONE", UmbrellaDoors.NONE, -1);
        CHECK.due("BAD", UmbrellaDoors.BAD, -2);
        CHECK.due("STATE", UmbrellaDoors.STATE, -3);
        CHECK.due("FULL", UmbrellaDoors.FULL, -4);
        CHECK.due("NO", UmbrellaDoors.NO, Long.MIN_VALUE);
    }

    private static void stands() {
        CHECK.part("promise 2");
        UmbrellaDoors x = new UmbrellaDoors();
        CHECK.due("stand(3, 9)", x.stand(3, 9), 0);
        CHECK.due("stand(3, 4)", x.stand(3, 4), 9);
        CHECK.due("stand(0, 0)", x.stand(0, 0), 0);
        CHECK.due("stand(0, 10)", x.stand(0, 10), -2);
        CHECK.due("stand(0, -1)", x.stand(0, -1), -2);
        CHECK.due("stand(4, 1)", x.stand(4, 1), -1);
        CHECK.due("stand(-1, 1)", x.stand(-1, 1), -1);
        CHECK.due("stand(4, 10): the first one told", x.stand(4, 10), -1);
        CHECK.due("stand(min, max)", x.stand(Integer.MIN_VALUE, Integer.MAX_VALUE), -1);
        CHECK.due("refusals change nothing", Check.standing(x), 4);
    }

    private static void feeding() {
        CHECK.part("promise 3");
        UmbrellaDoors x = new UmbrellaDoors();
        CHECK.due("feed n 0", x.feed(1, 0), -2);
        CHECK.due("feed n 9", x.feed(1, 9), -2);
        CHECK.due("feed n max", x.feed(1, Integer.MAX_VALUE), -2);
        // "wet 3" by its bytes, what stands higher in w left out
        CHECK.due("feed 'we'", x.feed(0x7f7f7765L, 2), 2);
        CHECK.due("feed 't 3'", x.feed(0xff742033L, 3), 5);
        CHECK.due("town", x.town(), 0);
        CHECK.due("wet", x.told(1), 3);
        // 15 times 8 bytes fill it
        for (int k = 1; k <= 15; k++) {
            CHECK.due("feed 8", x.feed(-1L, 8), 8L * k);
        }
        CHECK.due("feed when full", x.feed(0, 1), -4);
        CHECK.due("BAD ahead of FULL", x.feed(0, 0), -2);
        CHECK.due("bytes", x.count(5), 120);
        CHECK.due("bytes of 255 are no TOWN", x.town(), -10);
        CHECK.due("empty then", x.count(5), 0);
        for (int k = 0; k < 14; k++) {
            x.feed(0, 8);
        }
        x.feed(0, 5);
        CHECK.due("117 and 4", x.feed(0, 4), -4);
        CHECK.due("117 and 3", x.feed(0, 3), 120);
    }

    private static void townsAndNumbers() {
        CHECK.part("promise 4");
        UmbrellaDoors x = new UmbrellaDoors();
        CHECK.due("an empty TAPE", x.town(), -10);
        CHECK.due("no TOWN by a FAULT", x.count(2), 0);
        CHECK.due("first", Check.town(x, "wet 5"), 0);
        CHECK.due("a FAULT", Check.town(x, "wet 6;wet"), -19);
        CHECK.due("the one that held holds", x.told(1), 5);
        CHECK.due("second", Check.town(x, "carry 7"), 1);
        CHECK.due("the newest one holds", x.told(1), 9);
        CHECK.due("carry", x.told(2), 7);
        CHECK.due("third", Check.town(x, "cart 0"), 2);
        CHECK.due("fourth", Check.town(x, "rain 10 h<24"), 3);
        CHECK.due("fifth", Check.town(x, "lost 1 s=1;wet 99;wet 12"), 4);
        CHECK.due("the last wet holds", x.told(1), 12);
        CHECK.due("FULL", Check.town(x, "wet 1"), -4);
        CHECK.due("THE TAPE stays", x.count(5), 5);
        CHECK.due("FULL ahead of a FAULT", Check.town(x, "x"), -4);
        CHECK.due("THE TAPE stays again", x.count(5), 6);
        CHECK.due("TOWNS", x.count(2), 5);
        CHECK.due("what holds", x.told(1), 12);
    }

    /** What town answers to a text on a new object. */
    private static void reads(String text, long want) {
        CHECK.due("town of " + text, Check.town(new UmbrellaDoors(), text), want);
    }

    private static void wordsAndFaults() {
        CHECK.part("promise 4, words");
        reads("r", -11);
        reads("ra ", -12);
        reads("car", -13);
        reads("cars", -13);
        reads("carr", -14);
        reads("carrt", -14);
        reads("carty", -14);
        reads("lot", -12);
        reads("wex", -12);
        reads("Wet 1", -10);
        reads(" wet 1", -10);
        reads("wet", -13);
        reads("wet ", -14);
        reads("wet  1", -14);
        reads("wet 1", 0);
        reads("wet 0", 0);
        reads("wet 00", -15);
        reads("wet 01", -15);
        reads("wet 10", 0);
        reads("wet 100", -16);
        reads("wet x", -14);
        reads("wet -1", -14);
        reads("wet 1 ", -15);
        reads("wet 1;", -16);
        reads("wet 1;;", -16);
        reads("wet 1; wet 1", -16);
        reads("wet 1;carry 2;cart 3", 0);
        reads("wet 1 s=1", -15);
        reads("rain 1", -16);
        reads("rain 1;", -16);
        reads("rain 1 ", -17);
        reads("lost 5 ", -17);
        reads("lost 5 u=9", 0);
    }

    private static void expressionFaults() {
        CHECK.part("promise 4, E");
        reads("rain 1 s", -18);
        reads("rain 1 s=", -19);
        reads("rain 1 s=1", 0);
        reads("rain 1 s<1&h>5|p=0&d<2|u>3", 0);
        reads("rain 1 x=1", -17);
        reads("rain 1 s!1", -18);
        reads("rain 1 s==1", -19);
        reads("rain 1 s=01", -20);
        reads("rain 1 s=123", -21);
        reads("rain 1 s=1&", -21);
        reads("rain 1 s=1 &s=1", -20);
        reads("rain 1 s=1&&s=1", -21);
        reads("rain 1 s=1)", -20);
        reads("rain 1 (s=1", -21);
        reads("rain 1 (s=1)", 0);
        reads("rain 1 (s=1;wet 1", -21);
        reads("rain 1 ()", -18);
        reads("rain 1 !", -18);
        reads("rain 1 !s=1", 0);
        reads("rain 1 !(s=1|h<3)&!!u=2;wet 1", 0);
        reads("rain 1 s=1s=1", -20);
        reads("rain 1 s=1(", -20);
        reads("rain 1 s=1!", -20);
    }

    private static void openOnes() {
        CHECK.part("promise 4, open ones");
        reads("rain 1 !!!!!s=1", 0);
        reads("rain 1 !!!!!!s=1", -22);
        reads("rain 1 (((((s=1)))))", 0);
        reads("rain 1 ((((((s=1))))))", -22);
        reads("rain 1 !(!(!s=1))", 0);
        reads("rain 1 !(!(!!s=1))", -22);
        reads("rain 1 !(!(!(s=1)))", -22);
        // a ! till its F ends, a ( till its )
        reads("rain 1 !!!!!s=1&!!!!!s=0|(((((s=1)))))", 0);
        reads("rain 1 !(((s=1)&(!s=1)))", 0);
        reads("rain 1 !(((s=1)&(!!s=1)))", -28);
        reads("rain 1 ((!!s=1&(((s=1)))))", 0);
    }

    private static void clausesAtMost() {
        CHECK.part("promise 4, CLAUSES");
        StringBuilder text = new StringBuilder("wet 0");
        for (int k = 1; k < 10; k++) {
            text.append(";wet ").append(k);
        }
        UmbrellaDoors x = new UmbrellaDoors();
        CHECK.due("ten", Check.town(x, text.toString()), 0);
        CHECK.due("the last one holds", x.told(1), 9);
        reads(text + ";wet 1", -69);
        reads(text + ";", -69);
        // the whole of THE TAPE in one E
        StringBuilder long120 = new StringBuilder("rain 10 h<99");
        while (long120.length() < 120) {
            long120.append("&h<9");
        }
        CHECK.due("bytes", long120.length(), 120);
        x = Check.in(long120.toString());
        CHECK.due("towns", x.count(2), 1);
        CHECK.due("told", x.told(0), 10);
    }

    private static void rainIs(String text, long want) {
        CHECK.due("told(0) in " + text, Check.in(text).told(0), want);
    }

    private static void rainTold() {
        CHECK.part("promise 5");
        UmbrellaDoors x = new UmbrellaDoors();
        CHECK.due("rain without", x.told(0), 0);
        CHECK.due("wet without", x.told(1), 9);
        CHECK.due("carry without", x.told(2), 1);
        CHECK.due("cart without", x.told(3), 2);
        CHECK.due("told(6)", x.told(6), -1);
        CHECK.due("told(-1)", x.told(-1), -1);
        x = Check.in("wet 0;carry 99;cart 40");
        CHECK.due("wet", x.told(1), 0);
        CHECK.due("carry", x.told(2), 99);
        CHECK.due("cart", x.told(3), 40);
        rainIs("rain 3 s=0;rain 4 h=0;rain 2 s=1", 7);
        rainIs("rain 6 s=0;rain 6 h=0", 10);
        rainIs("rain 99 s=0", 10);
        rainIs("rain 0 s=0", 0);
        rainIs("rain 1 p=99;rain 2 d=99;rain 4 u=99", 7);
        rainIs("rain 1 p<99;rain 2 d<99;rain 4 u>99", 0);
        rainIs("rain 1 s<1;rain 2 s>0;rain 4 s<0", 1);
        // & binds tighter than |, ! tighter than &
        rainIs("rain 1 s=0|s=0&s=1", 1);
        rainIs("rain 1 (s=0|s=0)&s=1", 0);
        rainIs("rain 1 !s=1&s=1", 0);
        rainIs("rain 1 !(s=1&s=1)", 1);
        rainIs("rain 1 !s=1|s=1;rain 2 !!s=0;rain 4 !!!s=0", 3);
        rainIs("rain 1 s=1|s=1|s=0;rain 2 s=0&s=0&s=1;rain 4 s=1&s=1|s=0&s=0", 5);
        x = Check.in("rain 5 s=1;rain 3 h=2;rain 1 h<2");
        CHECK.due("hour 0", x.told(0), 1);
        x.go(1);
        CHECK.due("hour 1 behind rain", x.told(0), 6);
        CHECK.due("sky", x.told(5), 1);
        CHECK.due("hour", x.told(4), 1);
        x.go(0);
        CHECK.due("hour 2 behind sun", x.told(0), 3);
        CHECK.due("sky", x.told(5), 0);
        for (int k = 2; k < 26; k++) {
            x.go(0);
        }
        CHECK.due("hour 26 is 2 modulo 24", x.told(0), 3);
        CHECK.due("hour", x.told(4), 26);
    }
}
