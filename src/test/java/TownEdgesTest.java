/** The edges that the document names of doors and towns (promises 1 to 5): each sentence with a test of its own. */
public final class TownEdgesTest {
    private static final Check CHECK = new Check();
    private static final int MIN = Integer.MIN_VALUE, MAX = Integer.MAX_VALUE;
    private static final String[] WORDS = {"rain ", "wet ", "carry ", "lost ", "cart "};

    public static void main(String[] args) {
        emptyAtFirst();
        nothingComesOfNothing();
        doorsZeroToThree();
        umbrellasZeroToNine();
        bytesOneToEight();
        lowestBytesHighestFirst();
        tapeOf120();
        tapeOf120IsATown();
        tapeIsEmptyThen();
        theOneThatHeldHolds();
        fullAheadOfAll();
        townsFromZeroOn();
        endsTooEarly();
        firstByteThatCannotGoOn();
        bytesThatAreNoSigns();
        oneBlank();
        numbersOfClauses();
        numbersOfTests();
        partsOfAnE();
        fiveOpen();
        openTillItEnds();
        tenClauses();
        CHECK.end();
    }

    // ---- promise 1

    private static void emptyAtFirst() {
        CHECK.part("Empty STANDS, nobody, FINE.");
        UmbrellaDoors x = new UmbrellaDoors();
        for (int door = 0; door < 4; door++) {
            CHECK.due("stand(" + door + ", 0)", x.stand(door, 0), 0);
        }
        for (int what = 0; what <= 6; what++) {
            CHECK.due("count(" + what + ")", x.count(what), 0);
        }
        CHECK.due("the HOUR that comes", x.told(4), 0);
        CHECK.due("the SKY", x.told(5), 0);
        CHECK.due("RAIN behind a FINE one", Check.in("rain 4 s=0;rain 3 s=1").told(0), 4);
        for (int what = 0; what <= 7; what++) {
            CHECK.due("of(0, " + what + ")", x.of(0, what), -1);
        }
        CHECK.due("step(0, 1)", x.step(0, 1), -1);
        CHECK.due("as(0, 0)", x.as(0, 0), -1);
        CHECK.due("rule(0, 1)", x.rule(0, 1), -1);
        CHECK.due("penny(0, 1, 0)", x.penny(0, 1, 0), Long.MIN_VALUE);
        CHECK.due("act(0, 0, 7)", x.act(0, 0, 7), 0);
        CHECK.due("trace(0)", x.trace(0), -1);
        CHECK.due("undo()", x.undo(), -3);
    }

    private static void nothingComesOfNothing() {
        CHECK.part("A new object, asked");
        UmbrellaDoors x = new UmbrellaDoors();
        for (int what = 0; what <= 6; what++) {
            CHECK.due("hand(0, " + what + ")", x.hand(0, what), 0);
        }
        CHECK.due("hand(1, 0)", x.hand(1, 0), -1002);
        CHECK.due("mean(8, 0, 0)", x.mean(8, 0, 0), 0);
        CHECK.due("mean(8, 0, 1)", x.mean(8, 0, 1), 1);
        CHECK.due("mean(8, 1, 0)", x.mean(8, 1, 0), 1);
        CHECK.due("mean(8, 1, 1)", x.mean(8, 1, 1), 1);
        CHECK.due("least(8, 0)", x.least(8, 0), 0);
        for (int door = 0; door < 4; door++) {
            CHECK.due("start(5, " + door + ")", x.start(5, door), 0);
        }
        CHECK.due("gather(6)", x.gather(6), 0);
        CHECK.due("cart()", x.cart(), 0);
        CHECK.due("needed()", x.needed(), 0);
        CHECK.due("vanish(0)", x.vanish(0), -5);
        CHECK.due("vanish(1)", x.vanish(1), -5);
        CHECK.due("go(1)", x.go(1), 0);
        CHECK.due("the SKY", x.told(5), 1);
        CHECK.due("image()", x.image(), 0);
        CHECK.due("undo()", x.undo(), 0);
    }

    // ---- promise 2

    private static void doorsZeroToThree() {
        CHECK.part("DOORS 0 .. 3");
        UmbrellaDoors x = new UmbrellaDoors();
        int[] none = {-1, 4, MIN, MAX, 10};
        for (int door : none) {
            CHECK.due("stand(" + door + ", 1)", x.stand(door, 1), -1);
        }
        for (int door = 0; door < 4; door++) {
            CHECK.due("stand(" + door + ", 1)", x.stand(door, door + 1), 0);
        }
        CHECK.due("each its own", Check.standing(x), 1234);
    }

    private static void umbrellasZeroToNine() {
        CHECK.part("so many UMBRELLAS (0 .. 9; 0 at first)");
        UmbrellaDoors x = new UmbrellaDoors();
        for (int door = 0; door < 4; door++) {
            CHECK.due("9", x.stand(door, 9), 0);
            CHECK.due("10", x.stand(door, 10), -2);
            CHECK.due("-1", x.stand(door, -1), -2);
            CHECK.due("min", x.stand(door, MIN), -2);
            CHECK.due("max", x.stand(door, MAX), -2);
            CHECK.due("0", x.stand(door, 0), 9);
            CHECK.due("1", x.stand(door, 1), 0);
        }
        CHECK.due("in all", x.count(1), 4);
    }

    // ---- promise 3

    private static void bytesOneToEight() {
        CHECK.part("BAD: n not 1 .. 8");
        UmbrellaDoors x = new UmbrellaDoors();
        int[] bad = {0, 9, -1, MIN, MAX, 16};
        for (int n : bad) {
            CHECK.due("feed(0, " + n + ")", x.feed(0, n), -2);
        }
        int bytes = 0;
        for (int n = 1; n <= 8; n++) {
            bytes += n;
            CHECK.due("feed(0, " + n + ")", x.feed(0, n), bytes);
        }
        CHECK.due("bytes", x.count(5), 36);
    }

    /** The bytes of a text, n at once, with other ones above them in w. */
    private static void feedBy(UmbrellaDoors x, String text, int n) {
        for (int k = 0; k < text.length(); k += n) {
            long w = 0xA5C3L;
            int end = Math.min(text.length(), k + n);
            for (int j = k; j < end; j++) {
                w = w << 8 | text.charAt(j);
            }
            CHECK.due("feed by " + n, x.feed(w, end - k), end);
        }
    }

    private static void lowestBytesHighestFirst() {
        CHECK.part("The n lowest bytes of w, the highest first");
        for (int n = 1; n <= 8; n++) {
            UmbrellaDoors x = new UmbrellaDoors();
            feedBy(x, "wet 31;carry 42;cart 53;lost 7 s=1;rain 6 s=0", n);
            CHECK.due("town by " + n, x.town(), 0);
            CHECK.due("wet by " + n, x.told(1), 31);
            CHECK.due("carry by " + n, x.told(2), 42);
            CHECK.due("cart by " + n, x.told(3), 53);
            CHECK.due("RAIN by " + n, x.told(0), 6);
        }
        UmbrellaDoors x = new UmbrellaDoors();
        Check.feed(x, "wet ");
        CHECK.due("of a w below 0", x.feed(0xFFFFFFFFFFFFFF38L, 1), 5);
        CHECK.due("town", x.town(), 0);
        CHECK.due("wet", x.told(1), 8);
        CHECK.due("a highest byte above 127", x.feed(-1L, 8), 8);
        CHECK.due("its FAULT", x.town(), -10);
    }

    private static void tapeOf120() {
        CHECK.part("THE TAPE (bytes, 120 at most); FULL");
        for (int n = 1; n <= 8; n++) {
            UmbrellaDoors x = new UmbrellaDoors();
            for (int k = 0; k < 120 - n + 1; k += 8) {
                x.feed(0, Math.min(8, 120 - n + 1 - k));
            }
            CHECK.due("one too many for " + n, x.feed(0, n), -4);
            CHECK.due("as many as ahead of that", x.count(5), 121 - n);
            for (int k = 1; k < n; k++) {
                CHECK.due("the last ones", x.feed(0, 1), 121 - n + k);
            }
            CHECK.due("121", x.feed(0, 1), -4);
            CHECK.due("bytes", x.count(5), 120);
        }
    }

    private static void tapeOf120IsATown() {
        CHECK.part("THE TAPE of 120 bytes, read");
        StringBuilder text = new StringBuilder("wet 7;rain 3 h<9");
        while (text.length() < 120) {
            text.append("|s=1");
        }
        CHECK.due("bytes", text.length(), 120);
        UmbrellaDoors x = new UmbrellaDoors();
        Check.feed(x, text.toString());
        CHECK.due("FULL", x.feed('9', 1), -4);
        CHECK.due("a refused byte is not in it", x.town(), 0);
        CHECK.due("RAIN", x.told(0), 3);
        Check.feed(x, text.toString());
        CHECK.due("twice", x.town(), 1);
    }

    // ---- promise 4

    private static void tapeIsEmptyThen() {
        CHECK.part("THE TAPE, which is empty then (by a FAULT, too)");
        UmbrellaDoors x = new UmbrellaDoors();
        CHECK.due("a TOWN", Check.town(x, "wet 5;wet 6"), 0);
        CHECK.due("bytes", x.count(5), 0);
        CHECK.due("a FAULT", Check.town(x, "wet 5;wet 6x"), -21);
        CHECK.due("bytes", x.count(5), 0);
        CHECK.due("it begins again", Check.town(x, "wet 4"), 1);
        CHECK.due("an empty one", x.town(), -10);
        CHECK.due("wet", x.told(1), 4);
        CHECK.due("feed from the first byte on", x.feed('w', 1), 1);
        CHECK.due("a shorter one has nothing of a longer one", x.town(), -11);
    }

    private static void theOneThatHeldHolds() {
        CHECK.part("-10 less the FAULT (the one that held holds)");
        UmbrellaDoors x = new UmbrellaDoors();
        CHECK.due("a FAULT", Check.town(x, "wet 1;carry 2;cart 3;rain 4 s=0;lost 1 d<9;w"), -54);
        CHECK.due("without a TOWN: wet", x.told(1), 9);
        CHECK.due("without a TOWN: carry", x.told(2), 1);
        CHECK.due("without a TOWN: cart", x.told(3), 2);
        CHECK.due("without a TOWN: RAIN", x.told(0), 0);
        x.person(4, 0, 1);
        x.stand(0, 1);
        x.go(0);
        CHECK.due("without a TOWN nothing is lost", x.count(1), 1);
        Check.town(x, "wet 11;carry 12;cart 13;rain 5 s=0;lost 2 d<9");
        CHECK.due("a FAULT", Check.town(x, "wet 1;carry 2;cart 3;rain 4 s=0;lost 3 d<9;"), -53);
        CHECK.due("wet", x.told(1), 11);
        CHECK.due("carry", x.told(2), 12);
        CHECK.due("cart", x.told(3), 13);
        CHECK.due("RAIN", x.told(0), 5);
        x.go(0);
        CHECK.due("lost in HOUR 1", x.count(1), 0);
    }

    private static void fullAheadOfAll() {
        CHECK.part("FULL (ahead of all; THE TAPE stays)");
        UmbrellaDoors x = new UmbrellaDoors();
        for (int k = 0; k < 4; k++) {
            CHECK.due("a TOWN", Check.town(x, "wet " + k), k);
        }
        CHECK.due("image", x.image(), 0);
        CHECK.due("a FAULT ahead of the fifth", Check.town(x, "wet 5."), -15);
        CHECK.due("the fifth", Check.town(x, "wet 44"), 4);
        CHECK.due("of an empty TAPE", x.town(), -4);
        CHECK.due("of a FAULT", Check.town(x, "#"), -4);
        CHECK.due("bytes", x.count(5), 1);
        CHECK.due("of more", Check.town(x, "wet 6"), -4);
        CHECK.due("bytes", x.count(5), 6);
        CHECK.due("TOWNS", x.count(2), 5);
        CHECK.due("the fifth holds", x.told(1), 44);
        CHECK.due("THE IMAGE had four", x.undo(), 0);
        CHECK.due("a fifth again", Check.town(x, "wet 77"), 4);
        CHECK.due("it holds", x.told(1), 77);
        x = new UmbrellaDoors();
        for (int k = 0; k < 5; k++) {
            Check.town(x, "wet " + k);
        }
        Check.feed(x, "wet 8");
        CHECK.due("FULL", x.town(), -4);
        CHECK.due("FULL again", x.town(), -4);
        CHECK.due("THE TAPE stays", x.feed('1', 1), 6);
    }

    private static void townsFromZeroOn() {
        CHECK.part("TOWNS are numbered from 0 on, 5 at most; the newest one holds");
        UmbrellaDoors x = new UmbrellaDoors();
        for (int k = 0; k < 5; k++) {
            CHECK.due("a FAULT has no number", Check.town(x, "wet"), -13);
            CHECK.due("its number", Check.town(x, "cart " + (9 - k)), k);
            CHECK.due("how many", x.count(2), k + 1);
            CHECK.due("the newest one", x.told(3), 9 - k);
            CHECK.due("nothing of an earlier one", x.told(1), 9);
        }
        CHECK.due("a sixth", Check.town(x, "cart 1"), -4);
    }

    /** What town answers to a text on a new object: a FAULT there. */
    private static void fault(String text, int place) {
        CHECK.due("town of " + text, Check.town(new UmbrellaDoors(), text), -10 - place);
    }

    private static void fits(String text) {
        CHECK.due("town of " + text, Check.town(new UmbrellaDoors(), text), 0);
    }

    private static void endsTooEarly() {
        CHECK.part("FAULT: (the size, if it ends too early)");
        String text = "rain 12 !(s=1|h<23)&u>3;lost 9 p=0;carry 40";
        // where a TOWN may end: behind an F at which none is open, behind a number; elsewhere it ends too early
        String ends = " 19 23 34 42 43 ";
        for (int size = 0; size <= text.length(); size++) {
            if (ends.contains(" " + size + " ")) {
                fits(text.substring(0, size));
            } else {
                fault(text.substring(0, size), size);
            }
        }
    }

    private static void firstByteThatCannotGoOn() {
        CHECK.part("FAULT: the place of the first byte with which no TOWN can go on");
        String[] texts = {"rain 12 !(s=1|h<23)&u>3;lost 9 p=0;carry 40", "cart 7;wet 88;lost 0 ((d>2))", "carry 1;cart 1"};
        for (String text : texts) {
            for (int place = 0; place <= text.length(); place++) {
                fault(text.substring(0, place) + "#" + text.substring(place), place);
                fault(text.substring(0, place) + "#", place);
            }
        }
        // a word goes on as far as one word does
        fault("carn 1", 3);
        fault("carrot", 4);
        fault("cary 1", 3);
        fault("cat 1", 2);
        fault("wat 1", 1);
        fault("lest 1", 1);
        fault("rait 1", 3);
        fault("RAIN 1", 0);
        fault("wets 1", 3);
        fault("wet1", 3);
        fault("told 1", 0);
        // of two faults the first one
        fault("wet 1;wit 2;#", 7);
    }

    private static void bytesThatAreNoSigns() {
        CHECK.part("FAULT, bytes beside the signs of a TOWN");
        int[] bytes = {0, 9, 10, 13, 127, 128, 255};
        String text = "lost 1 s=1;wet 5";
        for (int b : bytes) {
            for (int place = 0; place <= text.length(); place++) {
                fault(text.substring(0, place) + (char) b + text.substring(place), place);
            }
        }
        for (int place = 0; place < text.length(); place++) {
            fault(text.substring(0, place) + (char) (text.charAt(place) + 128) + text.substring(place + 1), place);
        }
        // 0 is a byte, not the end
        fault("wet 5" + (char) 0, 5);
        fault("" + (char) 0, 0);
    }

    private static void oneBlank() {
        CHECK.part("one blank ahead of each part behind the word");
        fault("wet  1", 4);
        fault("rain  1 s=1", 5);
        fault("rain 1  s=1", 7);
        fault("rain 1s=1", 6);
        fault("rain1 s=1", 4);
        fault("lost 1(s=1)", 6);
        fault(" wet 1", 0);
        fault("wet 1 ", 5);
        fault("wet 1 ;wet 2", 5);
        fault("wet 1; wet 2", 6);
        fault("rain 1 s=1 ", 10);
        fault("rain 1 s =1", 8);
        fault("rain 1 s= 1", 9);
        fault("rain 1 s=1 |s=0", 10);
        fault("rain 1 s=1| s=0", 11);
        fault("rain 1 ( s=1)", 8);
        fault("rain 1 (s=1 )", 11);
        fault("rain 1 ! s=1", 8);
    }

    private static void numbersOfClauses() {
        CHECK.part("n 1 or 2 digits, no 0 ahead of another");
        for (String word : WORDS) {
            String e = word.equals("rain ") || word.equals("lost ") ? " s=1" : "";
            int size = word.length();
            for (String n : new String[] {"0", "1", "9", "10", "19", "90", "99"}) {
                fits(word + n + e);
            }
            for (String n : new String[] {"", "-1", "+1", "x", ":", "/"}) {
                fault(word + n + e + ";", size);
            }
            for (String n : new String[] {"00", "01", "09", "0x", "000", "1:", "1/", "9:"}) {
                fault(word + n + e, size + 1);
            }
            for (String n : new String[] {"100", "999", "10x", "10.", "101"}) {
                fault(word + n + e, size + 2);
            }
        }
    }

    private static void numbersOfTests() {
        CHECK.part("one of < = >, a number likewise");
        for (char name : "shpdu".toCharArray()) {
            for (char sign : "<=>".toCharArray()) {
                String head = "lost 1 " + name + sign;
                fits(head + "0");
                fits(head + "9");
                fits(head + "10");
                fits(head + "99");
                fault(head, 9);
                fault(head + "-1", 9);
                fault(head + sign + "1", 9);
                fault(head + "00", 10);
                fault(head + "01", 10);
                fault(head + "100", 11);
                fault(head + "1:", 10);
                fault(head + "1/", 10);
                fault(head + ":", 9);
                fault(head + "/", 9);
                fault("lost 1 " + name + "1", 8);
            }
            fault("lost 1 " + name + "!1", 8);
            fault("lost 1 " + name + name + "=1", 8);
        }
        for (char name : "abcefgijklmnoqrtvwxyzSHPDU0123456789".toCharArray()) {
            fault("rain 1 " + name + "=1", 7);
        }
    }

    private static void partsOfAnE() {
        CHECK.part("E: T, or T|E. T: F, or F&T. F: !F, (E), or a TEST");
        fault("rain 1 |s=1", 7);
        fault("rain 1 &s=1", 7);
        fault("rain 1 )", 7);
        fault("rain 1 ()", 8);
        fault("rain 1 !)", 8);
        fault("rain 1 !|s=1", 8);
        fault("rain 1 (|s=1)", 8);
        fault("rain 1 (s=1|)", 12);
        fault("rain 1 (s=1&)", 12);
        fault("rain 1 s=1|", 11);
        fault("rain 1 s=1|;wet 1", 11);
        fault("rain 1 s=1||s=1", 11);
        fault("rain 1 s=1|&s=1", 11);
        fault("rain 1 s=1&|s=1", 11);
        fault("rain 1 s=1)", 10);
        fault("rain 1 (s=1))", 12);
        fault("rain 1 (s=1", 11);
        fault("rain 1 ((s=1)", 13);
        fault("rain 1 (s=1)(s=1)", 12);
        fault("rain 1 (s=1)s=1", 12);
        fault("rain 1 (s=1)!s=1", 12);
        fits("rain 1 (s=1)|(s=1)&(!s=1)|!(s=1)");
        fits("rain 1 s=1&s=1&s=1|s=1|s=1&s=1");
    }

    private static void fiveOpen() {
        CHECK.part("At most 5 of ! and ( are open");
        for (int bits = 0; bits < 32; bits++) {
            StringBuilder opened = new StringBuilder("rain 9 ");
            StringBuilder closed = new StringBuilder();
            for (int k = 0; k < 5; k++) {
                boolean around = (bits >> k & 1) == 1;
                opened.append(around ? '(' : '!');
                closed.append(around ? ")" : "");
            }
            fits(opened + "s=1" + closed);
            fault(opened + "!s=1" + closed, 12);
            fault(opened + "(s=1)" + closed, 12);
            fault(opened.toString(), 12);
        }
    }

    private static void openTillItEnds() {
        CHECK.part("(a ( till its ) , a ! till its F ends)");
        fits("rain 9 !!!!!s=1&!!!!!s=1|!!!!!s=1");
        fits("rain 9 (((((s=1)))))&(((((s=1)))))|(((((s=1)))))");
        fits("rain 9 (!s=1&((((s=1)))))");
        fault("rain 9 (!s=1&(((((s=1))))))", 17);
        fits("rain 9 ((s=1)&((((s=1)))))");
        fault("rain 9 ((s=1)&(((((s=1))))))", 18);
        // the ! is open till the ) of its F
        fits("rain 9 !((s=1)|(((s=1))))");
        fault("rain 9 !((s=1)|((((s=1)))))", 18);
        fits("rain 9 !(s=1)|(((((s=1)))))");
        fits("rain 9 (!!(s=1)|!!(!s=1))");
        fault("rain 9 (!!(s=1)|!!(!(s=1)))", 20);
        fault("rain 9 (!!(s=1)|!!(!!s=1))", 20);
        fits("rain 9 !!!((s=1))&!!!((s=1))");
        fault("rain 9 !!!((s=1)&(!s=1))", 18);
        fault("rain 9 !!!((s=1)&((s=1)))", 18);
        // in each CLAUSE anew
        fits("rain 9 !!!!!s=1;lost 9 (((((s=1)))));rain 9 !!!!!s=1");
    }

    private static void tenClauses() {
        CHECK.part("CLAUSES, 10 at most, with ; between");
        String nine = "wet 1;wet 2;wet 3;wet 4;wet 5;wet 6;wet 7;wet 8;wet 9";
        fits(nine);
        fits(nine + ";wet 0");
        fits(nine + ";rain 1 s=1");
        fault(nine + ";", 54);
        fault(nine + ";wet 0;", 59);
        fault(nine + ";wet 0;wet 1", 59);
        fault(nine + ";rain 1 s=1;wet 1", 64);
        fault(nine + ";rain 1 s=1|;wet 1", 65);
        fault(nine + ";wet 10;#", 60);
        fault(nine + ";wet 0wet 1", 59);
        fault(nine + ";wet 0w", 59);
        fault("wet 0wet 1", 5);
        fault(";wet 1", 0);
        fault("wet 1;", 6);
        fault("wet 1;;wet 1", 6);
        fault("wet 1,wet 1", 5);
        StringBuilder rains = new StringBuilder("rain 1 s=0");
        for (int k = 1; k < 10; k++) {
            rains.append(";rain 1 s=0");
        }
        CHECK.due("ten of rain, together", Check.in(rains.toString()).told(0), 10);
        // ten of lost: the first, the last, or none of them holds
        for (int at = 0; at <= 10; at++) {
            StringBuilder losts = new StringBuilder();
            for (int k = 0; k < 10; k++) {
                losts.append(k == 0 ? "" : ";").append("lost 1 p=").append(k == at ? 0 : 9);
            }
            UmbrellaDoors x = Check.in(losts.toString());
            x.person(4, 0, 1);
            x.stand(0, 1);
            x.go(0);
            CHECK.due("lost by CLAUSE " + at, x.count(1), at < 10 ? 0 : 1);
        }
    }
}
