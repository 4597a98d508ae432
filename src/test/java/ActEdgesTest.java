/** The edges that the document names of acts and the image (promises 22 to 27): each sentence with a test of its own. */
public final class ActEdgesTest {
    private static final Check CHECK = new Check();
    private static final int MIN = Integer.MIN_VALUE, MAX = Integer.MAX_VALUE;
    private static final int[] EDGES = {0, 1, -1, MIN, MAX, MIN + 1, MAX - 1, 1 << 30, -(1 << 30), 715827883, -715827883};

    public static void main(String[] args) {
        intsWrapping();
        iItsNumber();
        noSuchOneNoSuchAct();
        traceOfNone();
        traceOfTheLatest();
        asNone();
        asUnderThat();
        imageOfHowMany();
        undoState();
        undoOfTheNewest();
        allThatThereIs();
        butTheImageAndTheTrace();
        countNone();
        countEdges();
        CHECK.end();
    }

    // ---- promises 22, 23

    /** One of the PEOPLE of a KIND, with that number and v. */
    private static UmbrellaDoors one(int kind, int number, int v) {
        UmbrellaDoors x = new UmbrellaDoors();
        for (int k = 0; k < number; k++) {
            x.person(0, 0, 1);
        }
        x.person(kind, v, 1);
        return x;
    }

    private static int takes(int kind, int i, int x) {
        switch (kind) {
            case 1:
            case 4: return 3 * x + i;
            case 5: return x + i ^ i;
            default: return x + i;
        }
    }

    private static int walks(int kind, int i, int v, int x) {
        int plain = takes(kind, i, x) - v;
        switch (kind) {
            case 2:
            case 5: return -plain;
            case 6: return -plain + v;
            default: return plain;
        }
    }

    private static int tells(int kind, int i, int v, int x) {
        switch (kind) {
            case 3: return walks(kind, i, v, x) * 2 ^ 7;
            case 4: return walks(kind, i, v, x - 1) * 2 + takes(kind, i, 2);
            default: return walks(kind, i, v, x) * 2;
        }
    }

    private static void intsWrapping() {
        CHECK.part("ACTS with x (ints, wrapping)");
        for (int kind = 0; kind <= 6; kind++) {
            for (int v = 0; v <= 9; v += 9) {
                UmbrellaDoors x = one(kind, 5, v);
                for (int given : EDGES) {
                    String name = "KIND " + kind + ", v " + v + ", x " + given;
                    CHECK.due("takes " + name, x.act(5, 0, given), takes(kind, 5, given));
                    CHECK.due("walks " + name, x.act(5, 1, given), walks(kind, 5, v, given));
                    CHECK.due("tells " + name, x.act(5, 2, given), tells(kind, 5, v, given));
                }
            }
        }
        CHECK.due("max and 1 wraps", one(0, 1, 0).act(1, 0, MAX), MIN);
        CHECK.due("min less 1 wraps", one(0, 0, 1).act(0, 1, MIN), MAX);
        CHECK.due("-min is min", one(2, 0, 0).act(0, 1, MIN), MIN);
        CHECK.due("twice min is 0", one(0, 0, 0).act(0, 2, MIN), 0);
        CHECK.due("three times max", one(1, 0, 0).act(0, 0, MAX), MAX - 2);
    }

    private static void iItsNumber() {
        CHECK.part("i its number");
        for (int i = 0; i < 6; i++) {
            for (int kind = 0; kind <= 6; kind++) {
                UmbrellaDoors x = one(kind, i, 4);
                CHECK.due("takes of KIND " + kind, x.act(i, 0, 10), takes(kind, i, 10));
                CHECK.due("walks of KIND " + kind, x.act(i, 1, 10), walks(kind, i, 4, 10));
                CHECK.due("tells of KIND " + kind, x.act(i, 2, 10), tells(kind, i, 4, 10));
            }
        }
    }

    private static void noSuchOneNoSuchAct() {
        CHECK.part("0, and no TRACE then: no such one, act");
        UmbrellaDoors x = one(4, 0, 5);
        int[] people = {-1, 1, 6, MIN, MAX};
        int[] acts = {-1, 3, MIN, MAX};
        for (int person : people) {
            CHECK.due("an act", x.act(0, 2, 9), 38 + 6);
            CHECK.due("act(" + person + ", 0, 9)", x.act(person, 0, 9), 0);
            CHECK.due("bodies", x.count(6), 0);
            CHECK.due("trace(0)", x.trace(0), -1);
        }
        for (int act : acts) {
            CHECK.due("an act", x.act(0, 0, 9), 27);
            CHECK.due("act(0, " + act + ", 9)", x.act(0, act, 9), 0);
            CHECK.due("bodies", x.count(6), 0);
            CHECK.due("trace(0)", x.trace(0), -1);
        }
    }

    private static void traceOfNone() {
        CHECK.part("THE TRACE's i-th body. NONE.");
        UmbrellaDoors x = one(4, 0, 5);
        CHECK.due("ahead of any act", x.trace(0), -1);
        x.act(0, 2, 0);
        int[] bodies = {41, 3, 2, 11, 1, 11, 1};
        for (int i = 0; i < bodies.length; i++) {
            CHECK.due("trace(" + i + ")", x.trace(i), bodies[i]);
        }
        int[] none = {-1, 7, 8, 19, 20, 21, MIN, MAX};
        for (int i : none) {
            CHECK.due("trace(" + i + ")", x.trace(i), -1);
        }
    }

    private static void traceOfTheLatest() {
        CHECK.part("the numbers of the bodies that ran in the latest act(), as they began");
        UmbrellaDoors x = one(4, 0, 5);
        x.act(0, 2, 0);
        x.act(0, 0, 0);
        CHECK.due("bodies", x.count(6), 2);
        CHECK.due("trace(0)", x.trace(0), 11);
        CHECK.due("trace(1)", x.trace(1), 1);
        CHECK.due("nothing of the longer one", x.trace(2), -1);
        x.trace(0);
        CHECK.due("asked again", x.trace(0), 11);
    }

    // ---- promise 24

    private static void asNone() {
        CHECK.part("as: NONE: person, k");
        UmbrellaDoors x = one(0, 0, 7);
        int[] people = {-1, 1, 6, MIN, MAX};
        int[] kinds = {-1, 7, MIN, MAX};
        for (int person : people) {
            for (int k = 0; k <= 6; k++) {
                CHECK.due("as(" + person + ", " + k + ")", x.as(person, k), -1);
            }
        }
        for (int k : kinds) {
            CHECK.due("as(0, " + k + ")", x.as(0, k), -1);
        }
    }

    private static void asUnderThat() {
        CHECK.part("taken for a KIND k (0 .. 6), or one under that: its v; -6: it is of another KIND");
        // by KINDS 0 .. 6: as which k it may be taken
        String[] may = {"1000000", "1100000", "1010000", "1001000", "1100100", "1010010", "1010001"};
        for (int kind = 0; kind <= 6; kind++) {
            for (int v = 0; v <= 9; v++) {
                UmbrellaDoors x = one(kind, 0, v);
                for (int k = 0; k <= 6; k++) {
                    CHECK.due("KIND " + kind + ": as(0, " + k + ")", x.as(0, k), may[kind].charAt(k) == '1' ? v : -6);
                }
            }
        }
    }

    // ---- promises 25, 26

    private static void imageOfHowMany() {
        CHECK.part("THE IMAGE is taken: how many PEOPLE there are");
        UmbrellaDoors x = new UmbrellaDoors();
        for (int people = 0; people <= 6; people++) {
            CHECK.due("image()", x.image(), people);
            CHECK.due("undo()", x.undo(), people);
            x.person(0, 0, 1);
        }
        for (int people = 0; people <= 6; people++) {
            UmbrellaDoors y = new UmbrellaDoors();
            for (int k = 0; k < people; k++) {
                y.person(0, 0, 1);
            }
            y.image();
            for (int k = people; k < 6; k++) {
                y.person(0, 0, 1);
            }
            CHECK.due("undo() of " + people, y.undo(), people);
            CHECK.due("PEOPLE", y.count(0), people);
            CHECK.due("the next one's number", y.person(0, 0, 1), people == 6 ? -4 : people);
        }
    }

    private static void undoState() {
        CHECK.part("STATE: there is none");
        UmbrellaDoors x = new UmbrellaDoors();
        CHECK.due("undo()", x.undo(), -3);
        x.stand(0, 3);
        x.person(0, 0, 1);
        x.go(1);
        CHECK.due("undo()", x.undo(), -3);
        CHECK.due("nothing changed: PEOPLE", x.count(0), 1);
        CHECK.due("nothing changed: standing", Check.standing(x), 2100);
        CHECK.due("nothing changed: the HOUR", x.told(4), 1);
        CHECK.due("image()", x.image(), 1);
        CHECK.due("undo()", x.undo(), 1);
        CHECK.due("undo() again", x.undo(), 1);
    }

    private static void undoOfTheNewest() {
        CHECK.part("All is as THE IMAGE");
        UmbrellaDoors x = new UmbrellaDoors();
        x.stand(0, 1);
        x.image();
        x.stand(0, 2);
        x.image();
        x.stand(0, 3);
        x.undo();
        CHECK.due("the newest one", x.stand(0, 4), 2);
        x.undo();
        CHECK.due("it stays as it was taken", x.stand(0, 5), 2);
        x.undo();
        x.undo();
        CHECK.due("twice is as once", x.stand(0, 6), 2);
    }

    private static UmbrellaDoors rich() {
        UmbrellaDoors x = Check.in("wet 5;carry 3;cart 4;rain 3 h=2;rain 2 s=0;lost 1 p=1");
        Check.stands(x, 1, 2, 3, 4);
        x.person(1, 3, 1);
        x.person(4, 2, 23);
        x.step(1, 2);
        x.go(1);
        x.row(1);
        x.row(0);
        x.book(0, 9);
        x.book(2, 4);
        Check.feed(x, "wet 1");
        return x;
    }

    private interface Change {
        long on(UmbrellaDoors x);
    }

    private static void undone(String name, Change change) {
        UmbrellaDoors x = rich();
        String before = Check.seen(x);
        x.image();
        change.on(x);
        CHECK.due(name + " is seen", Check.seen(x).equals(before) ? 1 : 0, 0);
        x.undo();
        CHECK.due(name + " is undone", Check.seen(x).equals(before) ? 1 : 0, 1);
        CHECK.due(name + ": THE TAPE goes on", Check.town(x, "7"), 1);
        CHECK.due(name + ": as it was fed", x.told(1), 17);
    }

    private static void allThatThereIs() {
        CHECK.part("THE IMAGE: all that there is");
        undone("stand", x -> x.stand(2, 9));
        undone("feed", x -> x.feed('9', 1));
        undone("town", x -> x.town());
        undone("a FAULT", x -> Check.town(x, ";"));
        undone("person", x -> x.person(2, 1, 10));
        undone("step", x -> x.step(0, 7));
        undone("go(0)", x -> x.go(0));
        undone("go(1)", x -> x.go(1));
        undone("row(1)", x -> x.row(1));
        undone("row(-1)", x -> x.row(-1));
        undone("row by row", x -> x.row(-1) + x.row(0) + x.row(1));
        undone("cart", x -> x.cart());
        undone("book", x -> x.book(1, 99));
        undone("book of a DOOR that is told", x -> x.book(0, 1));
    }

    private static void butTheImageAndTheTrace() {
        CHECK.part("(but THE IMAGE and THE TRACE)");
        UmbrellaDoors x = one(4, 0, 0);
        x.act(0, 2, 1);
        x.image();
        x.act(0, 0, 1);
        x.undo();
        CHECK.due("THE TRACE is of the latest act()", x.count(6), 2);
        CHECK.due("trace(0)", x.trace(0), 11);
        CHECK.due("trace(2)", x.trace(2), -1);
        x.act(1, 0, 1);
        x.undo();
        CHECK.due("no TRACE is of the latest act()", x.count(6), 0);
    }

    // ---- promise 27

    private static void countNone() {
        CHECK.part("count: NONE");
        UmbrellaDoors x = rich();
        int[] none = {-1, 7, 8, MIN, MAX};
        for (int what : none) {
            CHECK.due("count(" + what + ")", x.count(what), -1);
        }
    }

    private static void countEdges() {
        CHECK.part("count, from none to as many as there may be");
        UmbrellaDoors x = new UmbrellaDoors();
        for (int k = 0; k < 40; k++) {
            CHECK.due("PEOPLE", x.count(0), Math.min(6, k));
            CHECK.due("TOWNS", x.count(2), Math.min(5, k));
            CHECK.due("SKIES", x.count(3), Math.min(20, k));
            CHECK.due("rows", x.count(4), Math.min(10, k));
            x.person(4, 0, 1);
            x.row(1);
            x.book(1, 1);
            if (k < 5) {
                Check.town(x, "wet 3");
            }
        }
        CHECK.due("bytes", x.count(5), 0);
        for (int k = 1; k <= 16; k++) {
            x.feed(0, 8);
            CHECK.due("bytes", x.count(5), Math.min(120, 8 * k));
        }
        Check.stands(x, 9, 9, 9, 9);
        CHECK.due("UMBRELLAS", x.count(1), 36);
        x.go(0);
        CHECK.due("six are gone, for 9 stood there", x.count(1), 30);
        x.act(5, 2, 0);
        CHECK.due("bodies", x.count(6), 7);
    }
}
