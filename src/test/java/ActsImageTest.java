/** Promises 22 to 27. */
public final class ActsImageTest {
    private static final Check CHECK = new Check();
    private static final int BIG = 2000000000;

    public static void main(String[] args) {
        acts();
        wrapping();
        noAct();
        kinds();
        images();
        undoesAll();
        counts();
        CHECK.end();
    }

    /** Six of the PEOPLE, numbered as their KINDS from the first one on, v 3 each. */
    private static UmbrellaDoors people(int firstKind) {
        UmbrellaDoors x = new UmbrellaDoors();
        for (int k = 0; k < 6; k++) {
            x.person(firstKind + k, 3, 1);
        }
        return x;
    }

    private static void act(UmbrellaDoors x, int person, int act, int given, int want, int... bodies) {
        String name = "act(" + person + ", " + act + ", " + given + ")";
        CHECK.due(name, x.act(person, act, given), want);
        CHECK.due(name + " bodies", x.count(6), bodies.length);
        for (int k = 0; k < bodies.length; k++) {
            CHECK.due(name + " body " + k, x.trace(k), bodies[k]);
        }
        CHECK.due(name + " no more", x.trace(bodies.length), -1);
        CHECK.due(name + " none", x.trace(-1), -1);
        CHECK.due(name + " none", x.trace(20), -1);
    }

    private static void acts() {
        CHECK.part("promises 22, 23");
        UmbrellaDoors x = people(1);
        // numbers: 0 AHEAD, 1 BACK, 2 HARDY, 3 ALWAYS, 4 SHARING, 5 FAITHFUL
        act(x, 0, 0, 5, 15, 11, 1);
        act(x, 0, 1, 5, 12, 2, 11, 1);
        act(x, 0, 2, 5, 24, 3, 2, 11, 1);
        act(x, 1, 0, 5, 6, 1);
        act(x, 1, 1, 5, -3, 21, 2, 1);
        act(x, 1, 2, 5, -6, 3, 21, 2, 1);
        act(x, 2, 0, 5, 7, 1);
        act(x, 2, 1, 5, 4, 2, 1);
        act(x, 2, 2, 5, 8 ^ 7, 31, 3, 2, 1);
        act(x, 3, 0, 5, 18, 11, 1);
        act(x, 3, 1, 5, 15, 2, 11, 1);
        // (3 * 4 + 3 - 3) * 2, and 3 * 2 + 3
        act(x, 3, 2, 5, 24 + 9, 41, 3, 2, 11, 1, 11, 1);
        act(x, 4, 0, 5, 9 ^ 4, 51, 1);
        act(x, 4, 1, 5, -((9 ^ 4) - 3), 21, 2, 51, 1);
        act(x, 4, 2, 5, -((9 ^ 4) - 3) * 2, 3, 21, 2, 51, 1);
        act(x, 5, 0, 5, 10, 1);
        act(x, 5, 1, 5, -7 + 3, 61, 21, 2, 1);
        act(x, 5, 2, 5, -8, 3, 61, 21, 2, 1);
        x = people(0);
        act(x, 0, 0, -5, -5, 1);
        act(x, 0, 1, -5, -8, 2, 1);
        act(x, 0, 2, -5, -16, 3, 2, 1);
    }

    private static void wrapping() {
        CHECK.part("promise 22, wrapping");
        UmbrellaDoors x = people(1);
        act(x, 0, 0, BIG, BIG * 3, 11, 1);
        act(x, 5, 0, Integer.MAX_VALUE, Integer.MIN_VALUE + 4, 1);
        act(x, 1, 1, Integer.MIN_VALUE + 2, Integer.MIN_VALUE, 21, 2, 1);
        act(x, 3, 2, Integer.MIN_VALUE, Integer.MAX_VALUE * 6 + 9, 41, 3, 2, 11, 1, 11, 1);
        act(x, 2, 2, BIG, (BIG - 1) * 2 ^ 7, 31, 3, 2, 1);
    }

    private static void noAct() {
        CHECK.part("promise 22, refused");
        UmbrellaDoors x = people(0);
        CHECK.due("no TRACE at first", x.trace(0), -1);
        x.act(0, 2, 1);
        act(x, 6, 0, 5, 0);
        x.act(0, 2, 1);
        act(x, -1, 0, 5, 0);
        x.act(0, 2, 1);
        act(x, 0, 3, 5, 0);
        x.act(0, 2, 1);
        act(x, 0, -1, 5, 0);
    }

    private static void kinds() {
        CHECK.part("promise 24");
        int[] above = {-1, 0, 0, 0, 1, 2, 2};
        for (int kind = 0; kind < 7; kind++) {
            UmbrellaDoors x = new UmbrellaDoors();
            x.person(kind, 8, 1);
            for (int k = 0; k < 7; k++) {
                boolean is = k == kind || k == above[kind] || k == 0;
                CHECK.due(kind + " as " + k, x.as(0, k), is ? 8 : -6);
            }
            CHECK.due("kind 7", x.as(0, 7), -1);
            CHECK.due("kind -1", x.as(0, -1), -1);
            CHECK.due("no such one", x.as(1, 0), -1);
            CHECK.due("no such one", x.as(-1, 0), -1);
        }
    }

    private static void images() {
        CHECK.part("promises 25, 26");
        UmbrellaDoors x = new UmbrellaDoors();
        CHECK.due("no IMAGE", x.undo(), -3);
        CHECK.due("image of nobody", x.image(), 0);
        x.person(0, 0, 1);
        CHECK.due("image of one", x.image(), 1);
        x.person(4, 0, 1);
        CHECK.due("undo", x.undo(), 1);
        CHECK.due("people", x.count(0), 1);
        CHECK.due("nobody there", x.of(1, 0), -1);
        x.person(2, 5, 23);
        CHECK.due("another one", x.of(1, 0), 2);
        CHECK.due("THE IMAGE stays", x.undo(), 1);
        CHECK.due("people", x.count(0), 1);
        // THE TRACE is of the latest act, also behind an undo
        x.act(0, 0, 1);
        x.image();
        x.act(0, 2, 1);
        x.undo();
        CHECK.due("bodies", x.count(6), 3);
        CHECK.due("trace", x.trace(0), 3);
        // THE IMAGE is not in THE IMAGE
        x.stand(0, 1);
        x.image();
        x.stand(0, 2);
        x.undo();
        x.undo();
        CHECK.due("still the newest one", x.stand(0, 5), 1);
        x.image();
        x.undo();
        CHECK.due("taken of what is now", x.stand(0, 5), 5);
    }

    private static void undoesAll() {
        CHECK.part("promise 26, all");
        UmbrellaDoors x = Check.in("wet 5;rain 3 h=1;lost 1 s=1");
        Check.stands(x, 1, 2, 3, 4);
        x.person(0, 1, 1);
        x.person(4, 2, 23);
        x.step(1, 2);
        x.go(0);
        x.row(1);
        x.row(0);
        x.book(0, 9);
        Check.feed(x, "wet");
        long before = seen(x);
        CHECK.due("image", x.image(), 2);
        Check.town(x, " 7");
        Check.town(x, "wet 8;rain 9 s<2");
        Check.stands(x, 5, 5, 5, 5);
        x.person(6, 3, 30);
        x.step(1, 9);
        x.step(0, 9);
        x.go(1);
        x.go(1);
        x.row(-1);
        x.row(0);
        x.row(1);
        x.row(1);
        x.book(1, 99);
        Check.feed(x, "carry");
        CHECK.due("undo", x.undo(), 2);
        CHECK.due("all is as it was", seen(x), before);
        CHECK.due("THE TAPE goes on", Check.town(x, " 4"), 1);
        CHECK.due("by its bytes", x.told(1), 4);
        x.undo();
        CHECK.due("all is as it was, again", seen(x), before);
    }

    /** Much of what can be asked, in one number. */
    private static long seen(UmbrellaDoors x) {
        long sum = 0;
        for (int what = 0; what < 6; what++) {
            sum = sum * 31 + x.count(what);
            sum = sum * 31 + x.told(what);
            for (int person = 0; person < 6; person++) {
                sum = sum * 31 + x.of(person, what);
            }
            for (int n = 0; n <= 3; n++) {
                sum = sum * 31 + x.hand(n, what);
            }
        }
        for (int n = 1; n <= 4; n++) {
            sum = sum * 31 + x.mean(n, 0, 0);
            sum = sum * 31 + x.mean(n, 1, 0);
        }
        sum = sum * 31 + x.vanish(0);
        return sum * 31 + x.vanish(1);
    }

    private static void counts() {
        CHECK.part("promise 27");
        UmbrellaDoors x = Check.in("wet 5");
        Check.stands(x, 1, 2, 3, 9);
        x.person(3, 0, 1);
        x.person(3, 0, 1);
        x.row(0);
        x.row(0);
        x.row(0);
        x.book(0, 0);
        x.book(0, 0);
        x.book(0, 0);
        x.book(0, 0);
        Check.feed(x, "seven 7");
        x.act(0, 2, 0);
        int[] want = {2, 15, 1, 3, 4, 7, 4};
        for (int what = 0; what < 7; what++) {
            CHECK.due("count(" + what + ")", x.count(what), want[what]);
        }
        CHECK.due("count(7)", x.count(7), -1);
        CHECK.due("count(-1)", x.count(-1), -1);
    }
}
