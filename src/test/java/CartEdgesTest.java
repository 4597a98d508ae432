/** The edges that the document names of carts and books (promises 18 to 21): each sentence with a test of its own. */
public final class CartEdgesTest {
    private static final Check CHECK = new Check();
    private static final int MIN = Integer.MIN_VALUE, MAX = Integer.MAX_VALUE;
    private static final int WALKER = 0, HARDY = 3, ALWAYS = 4;

    public static void main(String[] args) {
        asManyAsCartSays();
        noMoreThanThereAre();
        norThanHaveRoom();
        ofSeveralTheLeastDoor();
        ifItIsOneDoor();
        neededOfNone();
        neededOfTheFirstTwelve();
        neededOfTheLastOne();
        neededOfTheFewest();
        neededLeastAsBits();
        neededNone();
        bookRefused();
        bookOfTen();
        vanishNone();
        vanishNoneIsTold();
        vanishOfSeveral();
        vanishCut();
        CHECK.end();
    }

    private static void moves(String town, int rows, int moved, int behind) {
        UmbrellaDoors x = Check.in(town);
        Check.stands(x, rows / 1000, rows / 100 % 10, rows / 10 % 10, rows % 10);
        CHECK.due("cart of " + rows + " in " + town, x.cart(), moved);
        CHECK.due("standing behind it", Check.standing(x), behind);
    }

    // ---- promise 18

    private static void asManyAsCartSays() {
        CHECK.part("CART: as many UMBRELLAS as cart says");
        moves("wet 1", 900, 2, 2700);
        moves("cart 0", 900, 0, 900);
        moves("cart 1", 900, 1, 1800);
        moves("cart 8", 900, 8, 8100);
        moves("cart 3;cart 0", 900, 0, 900);
        moves("cart 0;cart 3", 900, 3, 3600);
        UmbrellaDoors x = new UmbrellaDoors();
        x.stand(3, 5);
        CHECK.due("without a TOWN", x.cart(), 2);
        CHECK.due("standing", Check.standing(x), 2003);
    }

    private static void noMoreThanThereAre() {
        CHECK.part("but no more than there are");
        moves("cart 8", 7, 7, 7000);
        moves("cart 7", 7, 7, 7000);
        moves("cart 6", 7, 6, 6001);
        moves("cart 99", 9, 9, 9000);
        moves("wet 1", 1, 1, 1000);
        moves("cart 99", 1110, 1, 111);
    }

    private static void norThanHaveRoom() {
        CHECK.part("nor than have room (9 at most at a DOOR)");
        moves("cart 99", 9899, 1, 8999);
        moves("cart 99", 9799, 2, 7999);
        moves("cart 99", 9699, 3, 6999);
        moves("cart 2", 9699, 2, 7899);
        moves("cart 99", 6597, 4, 6957);
        moves("cart 5", 6597, 4, 6957);
        moves("cart 4", 6597, 4, 6957);
        moves("cart 3", 6597, 3, 6867);
    }

    private static void ofSeveralTheLeastDoor() {
        CHECK.part("from the DOOR with the most to that with the fewest (of several each the least)");
        moves("cart 1", 1212, 1, 2112);
        moves("cart 1", 2121, 1, 1221);
        moves("cart 1", 5533, 1, 4543);
        moves("cart 1", 3355, 1, 4345);
        moves("cart 1", 3553, 1, 4453);
        moves("cart 1", 5335, 1, 4435);
        moves("cart 1", 4, 1, 1003);
        moves("cart 1", 4440, 1, 3441);
        moves("cart 1", 1112, 1, 2111);
        moves("cart 1", 2111, 1, 1211);
    }

    private static void ifItIsOneDoor() {
        CHECK.part("0, if it is one DOOR");
        for (int n = 0; n <= 9; n++) {
            moves("cart 99", 1111 * n, 0, 1111 * n);
        }
    }

    // ---- promise 19

    private static UmbrellaDoors one(String town, int kind, int v, int doors) {
        UmbrellaDoors x = Check.in(town);
        x.person(kind, v, doors);
        return x;
    }

    private static void skies(UmbrellaDoors x, String skies) {
        x.row(-1);
        for (int k = 0; k < skies.length(); k++) {
            x.row(skies.charAt(k) - '0');
        }
    }

    private static void neededOfNone() {
        CHECK.part("NEEDED of a ROW without SKIES");
        UmbrellaDoors x = one("cart 1", WALKER, 0, 1);
        CHECK.due("none asked", x.needed(), 0);
        x.row(1);
        CHECK.due("one asked", x.needed(), -5);
        x.row(-1);
        CHECK.due("none asked again", x.needed(), 0);
    }

    private static void neededOfTheFirstTwelve() {
        CHECK.part("the set of HOURS of the ROW (of its first 12); nobody would be WET in these (12 at most)");
        UmbrellaDoors x = one("cart 1", WALKER, 0, 1);
        skies(x, "000000000000");
        CHECK.due("12 of FINE", x.needed(), 0);
        skies(x, "0000000000001");
        CHECK.due("RAIN in the 13th", x.needed(), 0);
        skies(x, "00000000000011111111");
        CHECK.due("RAIN from the 13th to the 20th", x.needed(), 0);
        skies(x, "000000000001");
        CHECK.due("RAIN in the 12th", x.needed(), -5);
        skies(x, "00000000000100000000");
        CHECK.due("RAIN in the 12th of 20", x.needed(), -5);
        skies(x, "000000000010");
        CHECK.due("RAIN in the 11th", x.needed(), -5);
        // it WALKS with the ROW, not by the numbers of HOURS
        for (int hour = 0; hour < 5; hour++) {
            x.go(0);
        }
        skies(x, "0000000000001");
        CHECK.due("RAIN in the 13th from HOUR 5 on", x.needed(), 0);
        x.stand(0, 1);
        skies(x, "111111111111");
        CHECK.due("at 1, where none stands", x.needed(), 1);
    }

    private static void neededOfTheLastOne() {
        CHECK.part("the CART ahead of the 12th HOUR alone");
        UmbrellaDoors x = one("cart 1;lost 1 s=0&d=1", WALKER, 0, 1);
        x.person(ALWAYS, 0, 13);
        x.step(1, 5);
        x.stand(0, 1);
        // ALWAYS is at 1 in the HOURS 0 and 10, and loses what was carted there
        skies(x, "000000000001");
        CHECK.due("bit 11", x.needed(), 2048);
        skies(x, "0000000000010");
        CHECK.due("bit 11 of 13", x.needed(), 2048);
        skies(x, "00000000000");
        CHECK.due("none", x.needed(), 0);
    }

    private static void neededOfTheFewest() {
        CHECK.part("of several that of the fewest");
        // in HOURS 0 and 2 at 0, in HOUR 1 at 1; one stands at 3
        UmbrellaDoors x = one("cart 1", WALKER, 0, 1);
        x.stand(3, 1);
        skies(x, "111");
        CHECK.due("once brought it goes along", x.needed(), 1);
        skies(x, "001");
        CHECK.due("at 0 in HOUR 2: by one, in HOUR 0", x.needed(), 1);
        skies(x, "01");
        CHECK.due("at 1 in HOUR 1: by two", x.needed(), 3);
        x = one("cart 1", WALKER, 0, 23);
        x.person(ALWAYS, 0, 1);
        Check.stands(x, 1, 2, 1, 1);
        skies(x, "101");
        CHECK.due("one CART ahead of HOUR 2, though two ahead of it were less as bits", x.needed(), 4);
        x = one("cart 1", WALKER, 0, 13);
        Check.stands(x, 1, 1, 0, 1);
        skies(x, "0101");
        CHECK.due("two CARTS, though three were less as bits", x.needed(), 12);
        x = one("cart 1;lost 1 s=0&d=0", WALKER, 0, 10);
        x.person(ALWAYS, 0, 3);
        x.step(1, 9);
        x.stand(3, 1);
        skies(x, "0001");
        // from 3 to 0 ahead of HOUR 0 it is lost there; ahead of HOUR 1 it stays
        CHECK.due("one CART ahead of HOUR 1", x.needed(), 2);
    }

    private static void neededLeastAsBits() {
        CHECK.part("then the least as bits");
        UmbrellaDoors x = one("cart 1", WALKER, 0, 12);
        x.stand(3, 1);
        // 3 to 0, 0 to 1: two CARTS somewhere ahead of HOUR 4
        skies(x, "00001");
        CHECK.due("bits 0 and 1", x.needed(), 3);
        skies(x, "0000001");
        CHECK.due("bits 0 and 1 of more", x.needed(), 3);
        // sets 6, 9, 10 and 12 serve: ALWAYS takes from 0 in HOUR 0, and brings it back in HOUR 2
        x = one("cart 1", WALKER, 0, 1);
        x.person(ALWAYS, 0, 3);
        x.step(1, 2);
        x.stand(2, 1);
        skies(x, "0001");
        CHECK.due("bits 1 and 2, not 0 and 3", x.needed(), 6);
        // one CART and one RAIN: the earliest HOUR is the lowest bit
        x = one("cart 9", WALKER, 0, 1);
        x.stand(2, 5);
        skies(x, "000000001");
        CHECK.due("bit 0", x.needed(), 1);
    }

    private static void neededNone() {
        CHECK.part("(-5: none)");
        UmbrellaDoors x = one("cart 0", WALKER, 0, 1);
        x.stand(1, 9);
        skies(x, "1");
        CHECK.due("a CART of 0", x.needed(), -5);
        x = one("cart 9", HARDY, 0, 1);
        x.stand(0, 9);
        CHECK.due("HARDY in FINE", x.needed(), 0);
        skies(x, "1");
        CHECK.due("HARDY in RAIN", x.needed(), -5);
        x = one("cart 99", WALKER, 0, 1);
        x.person(WALKER, 0, 10);
        skies(x, "1");
        x.stand(0, 1);
        CHECK.due("one is too few for two", x.needed(), -5);
        x.stand(0, 2);
        CHECK.due("all would be carted away", x.needed(), -5);
        x = one("cart 1", WALKER, 0, 1);
        x.person(WALKER, 0, 10);
        skies(x, "1");
        x.stand(0, 2);
        CHECK.due("one of two carted", x.needed(), 1);
    }

    // ---- promises 20, 21

    private static void bookRefused() {
        CHECK.part("rows of a DOOR, and how many vanished there (0 .. 99). NONE; BAD.");
        UmbrellaDoors x = new UmbrellaDoors();
        int[] doors = {-1, 4, MIN, MAX};
        int[] counts = {-1, 100, MIN, MAX};
        for (int door : doors) {
            CHECK.due("book(" + door + ", 1)", x.book(door, 1), -1);
            CHECK.due("book(" + door + ", 100)", x.book(door, 100), -1);
        }
        for (int n : counts) {
            CHECK.due("book(0, " + n + ")", x.book(0, n), -2);
            CHECK.due("book(3, " + n + ")", x.book(3, n), -2);
        }
        CHECK.due("rows", x.count(4), 0);
        CHECK.due("none is told", x.vanish(0), -5);
        CHECK.due("book(0, 0)", x.book(0, 0), 1);
        CHECK.due("book(3, 99)", x.book(3, 99), 2);
    }

    private static void bookOfTen() {
        CHECK.part("10 at most; FULL");
        UmbrellaDoors x = new UmbrellaDoors();
        for (int k = 1; k <= 10; k++) {
            CHECK.due("book(" + k % 4 + ", 99)", x.book(k % 4, 99), k);
            CHECK.due("rows", x.count(4), k);
        }
        CHECK.due("an 11th", x.book(0, 99), -4);
        CHECK.due("an 11th of 0", x.book(3, 0), -4);
        CHECK.due("rows", x.count(4), 10);
        // 1 and 2 three times, 0 and 3 twice: 297 less 990/4 = 49.5
        CHECK.due("the most", x.vanish(0), 1);
        CHECK.due("by", x.vanish(1), 4950);
    }

    private static void vanishNone() {
        CHECK.part("VANISH: what 0 the DOOR, 1 by how much. NONE.");
        UmbrellaDoors x = new UmbrellaDoors();
        int[] none = {-1, 2, MIN, MAX};
        for (int what : none) {
            CHECK.due("none told: vanish(" + what + ")", x.vanish(what), -1);
        }
        x.book(2, 5);
        for (int what : none) {
            CHECK.due("vanish(" + what + ")", x.vanish(what), -1);
        }
    }

    private static void vanishNoneIsTold() {
        CHECK.part("(-5: none is told)");
        UmbrellaDoors x = new UmbrellaDoors();
        CHECK.due("vanish(0)", x.vanish(0), -5);
        CHECK.due("vanish(1)", x.vanish(1), -5);
        for (int door = 0; door < 4; door++) {
            x = new UmbrellaDoors();
            x.book(door, 0);
            CHECK.due("told as 0", x.vanish(0), door);
            CHECK.due("by", x.vanish(1), 0);
        }
    }

    private static void vanishOfSeveral() {
        CHECK.part("of DOORS that are told the one at which the most vanished together (of several the least)");
        for (int low = 0; low < 4; low++) {
            for (int high = low + 1; high < 4; high++) {
                for (int n = 0; n <= 99; n += 33) {
                    UmbrellaDoors x = new UmbrellaDoors();
                    x.book(high, n);
                    x.book(low, n);
                    CHECK.due("as many: the least", x.vanish(0), low);
                    CHECK.due("by", x.vanish(1), 0);
                    x.book(high, 1);
                    CHECK.due("one more", x.vanish(0), high);
                    CHECK.due("by a half", x.vanish(1), 50);
                    x.book(low, 1);
                    CHECK.due("again the least", x.vanish(0), low);
                }
            }
        }
    }

    private static int by(int n0, int n1, int n2, int n3) {
        UmbrellaDoors x = new UmbrellaDoors();
        int[] counts = {n0, n1, n2, n3};
        for (int door = 0; door < 4; door++) {
            if (counts[door] >= 0) {
                x.book(door, counts[door]);
            }
        }
        return x.vanish(1);
    }

    private static void vanishCut() {
        CHECK.part("by how many hundredths (cut) that is more than the mean of all DOORS that are told");
        CHECK.due("of one", by(99, -1, -1, -1), 0);
        CHECK.due("of two", by(99, 0, -1, -1), 4950);
        CHECK.due("of three: 99 less 33", by(99, 0, -1, 0), 6600);
        CHECK.due("of four: 99 less 24.75", by(0, 0, 0, 99), 7425);
        CHECK.due("2/3", by(1, 0, 0, -1), 66);
        CHECK.due("1/3", by(-1, 1, 0, 1), 33);
        CHECK.due("4/3", by(2, 0, -1, 0), 133);
        CHECK.due("1/4", by(1, 1, 1, 0), 25);
        CHECK.due("3/4", by(0, 0, 1, 0), 75);
        CHECK.due("98 2/3", by(-1, 99, 1, 0), 6566);
    }
}
