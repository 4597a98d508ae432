/** Promises 18 to 21. */
public final class CartsBooksTest {
    private static final Check CHECK = new Check();

    public static void main(String[] args) {
        carts();
        needed();
        neededOfTwelve();
        books();
        vanished();
        CHECK.end();
    }

    private static void moves(String town, int s0, int s1, int s2, int s3, int moved, int standing) {
        UmbrellaDoors x = Check.in(town);
        Check.stands(x, s0, s1, s2, s3);
        CHECK.due("cart", x.cart(), moved);
        CHECK.due("standing", Check.standing(x), standing);
    }

    private static void carts() {
        CHECK.part("promise 18");
        moves("wet 1", 5, 3, 1, 2, 2, 3332);
        moves("wet 1", 3, 3, 3, 3, 0, 3333);
        moves("wet 1", 0, 0, 0, 0, 0, 0);
        moves("wet 1", 1, 4, 1, 4, 2, 3214);
        moves("wet 1", 0, 0, 0, 1, 1, 1000);
        moves("cart 0", 9, 0, 0, 0, 0, 9000);
        moves("cart 99", 0, 9, 3, 3, 9, 9033);
        moves("cart 99", 9, 8, 9, 9, 1, 8999);
        moves("cart 3", 9, 8, 7, 9, 2, 7899);
        moves("cart 3;cart 1", 4, 0, 0, 0, 1, 3100);
    }

    private static void needed() {
        CHECK.part("promise 19");
        UmbrellaDoors x = Check.in("cart 1");
        CHECK.due("an empty ROW", x.needed(), 0);
        x.person(0, 0, 1);
        x.row(1);
        CHECK.due("none stands at all", x.needed(), -5);
        x.stand(3, 1);
        CHECK.due("ahead of HOUR 0", x.needed(), 1);
        x.row(-1);
        x.row(0);
        CHECK.due("nobody is WET in a FINE one", x.needed(), 0);
        CHECK.due("only in thought", Check.standing(x), 1);
        // 1 goes 3 to 0 by the CART; then 0 to 1 by it in rain
        x.row(-1);
        x.row(0);
        x.row(0);
        x.row(1);
        CHECK.due("the least as bits of one CART", x.needed(), 1);
        x.stand(3, 0);
        x.stand(1, 1);
        // at 0 in HOUR 2: one CART, from 1 to 0
        CHECK.due("again", x.needed(), 1);
        x.row(1);
        CHECK.due("HOUR 3 by what HOUR 2 brought", x.needed(), 1);
        x = Check.in("cart 1");
        x.person(0, 0, 31);
        x.row(1);
        x.stand(2, 1);
        // one CART ahead of HOUR 0 brings it to 0 only
        CHECK.due("not by one", x.needed(), -5);
        x.row(-1);
        x.row(0);
        x.row(0);
        x.row(0);
        x.row(0);
        x.row(1);
        // it stands 2, 0, 1, 0, 1 ..: never at 3
        CHECK.due("never there", x.needed(), -5);
        x.row(-1);
        x.row(0);
        x.row(0);
        x.row(0);
        x.row(1);
        // at 1 in HOUR 3: two CARTS
        CHECK.due("two of several: the least as bits", x.needed(), 3);
    }

    private static void neededOfTwelve() {
        CHECK.part("promise 19, 12 at most");
        UmbrellaDoors x = Check.in("cart 1");
        x.person(0, 0, 1);
        for (int k = 0; k < 12; k++) {
            x.row(0);
        }
        x.row(1);
        CHECK.due("the 13th is not asked", x.needed(), 0);
        x.row(-1);
        for (int k = 0; k < 11; k++) {
            x.row(0);
        }
        x.row(1);
        CHECK.due("the 12th is", x.needed(), -5);
        // with one of ALWAYS who takes the brought one away, only the CART right ahead helps
        x = Check.in("cart 1");
        x.person(4, 0, 1);
        x.person(0, 0, 12);
        for (int k = 0; k < 11; k++) {
            x.row(0);
        }
        x.row(1);
        x.stand(3, 1);
        int set = x.needed();
        CHECK.due("two CARTS cannot serve both", set, -5);
        x = new UmbrellaDoors();
        x.person(0, 0, 1);
        x.step(0, 9);
        for (int k = 0; k < 9; k++) {
            x.row(0);
        }
        x.row(1);
        x.stand(1, 2);
        CHECK.due("in HOUR 9 it is at 1, where two stand", x.needed(), 0);
        x.stand(1, 0);
        x.stand(3, 2);
        // 2 are carted at once: 3 to 0, 0 to 1
        CHECK.due("two CARTS", x.needed(), 3);
    }

    private static void books() {
        CHECK.part("promise 20");
        UmbrellaDoors x = new UmbrellaDoors();
        CHECK.due("door 4", x.book(4, 0), -1);
        CHECK.due("door -1", x.book(-1, 0), -1);
        CHECK.due("n 100", x.book(0, 100), -2);
        CHECK.due("n -1", x.book(0, -1), -2);
        CHECK.due("NONE ahead of BAD", x.book(4, 100), -1);
        for (int k = 1; k <= 10; k++) {
            CHECK.due("row", x.book(k % 4, 99), k);
        }
        CHECK.due("FULL", x.book(0, 0), -4);
        CHECK.due("BAD ahead of FULL", x.book(0, 100), -2);
        CHECK.due("rows", x.count(4), 10);
    }

    private static void vanished() {
        CHECK.part("promise 21");
        UmbrellaDoors x = new UmbrellaDoors();
        CHECK.due("none told", x.vanish(0), -5);
        CHECK.due("none told", x.vanish(1), -5);
        CHECK.due("what 2", x.vanish(2), -1);
        CHECK.due("what -1", x.vanish(-1), -1);
        x.book(2, 0);
        CHECK.due("told as 0", x.vanish(0), 2);
        CHECK.due("as the mean", x.vanish(1), 0);
        x.book(1, 0);
        CHECK.due("of several the least", x.vanish(0), 1);
        x.book(3, 1);
        CHECK.due("the most", x.vanish(0), 3);
        CHECK.due("cut: 2/3", x.vanish(1), 66);
        x.book(2, 1);
        x.book(2, 1);
        CHECK.due("together", x.vanish(0), 2);
        CHECK.due("2 less 3/3", x.vanish(1), 100);
        x.book(0, 98);
        // 98 less 101/4
        CHECK.due("the least DOOR", x.vanish(0), 0);
        CHECK.due("by how much", x.vanish(1), 7275);
        CHECK.due("what 2", x.vanish(2), -1);
    }
}
