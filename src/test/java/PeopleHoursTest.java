/** Promises 6 to 11. */
public final class PeopleHoursTest {
    private static final Check CHECK = new Check();

    public static void main(String[] args) {
        people();
        steps();
        ofOne();
        wouldTake();
        goes();
        sharing();
        lostOnes();
        overfull();
        rows();
        byHand();
        CHECK.end();
    }

    private static void people() {
        CHECK.part("promise 6");
        UmbrellaDoors x = new UmbrellaDoors();
        CHECK.due("kind 7", x.person(7, 0, 1), -1);
        CHECK.due("kind -1", x.person(-1, 0, 1), -1);
        CHECK.due("doors 4", x.person(0, 0, 4), -1);
        CHECK.due("doors 40", x.person(0, 0, 40), -1);
        CHECK.due("doors -1", x.person(0, 0, -1), -1);
        CHECK.due("doors 100", x.person(0, 0, 100), -1);
        CHECK.due("doors min", x.person(0, 0, Integer.MIN_VALUE), -1);
        CHECK.due("doors max", x.person(0, 0, Integer.MAX_VALUE), -1);
        CHECK.due("v 10", x.person(0, 10, 1), -2);
        CHECK.due("v -1", x.person(0, -1, 1), -2);
        CHECK.due("a is b", x.person(0, 0, 22), -2);
        CHECK.due("a is b, 0", x.person(0, 0, 0), -2);
        CHECK.due("NONE ahead of BAD", x.person(0, 10, 4), -1);
        CHECK.due("nobody yet", x.count(0), 0);
        CHECK.due("0", x.person(6, 9, 32), 0);
        for (int k = 1; k < 6; k++) {
            CHECK.due("person", x.person(k, 0, 1), k);
        }
        CHECK.due("FULL", x.person(0, 0, 1), -4);
        CHECK.due("BAD ahead of FULL", x.person(0, 10, 1), -2);
        CHECK.due("NONE ahead of FULL", x.person(9, 0, 1), -1);
        CHECK.due("people", x.count(0), 6);
    }

    private static void steps() {
        CHECK.part("promise 7");
        UmbrellaDoors x = new UmbrellaDoors();
        CHECK.due("nobody", x.step(0, 1), -1);
        x.person(0, 0, 12);
        CHECK.due("step(0, 1)", x.step(0, 1), 1);
        CHECK.due("step(0, 9)", x.step(0, 9), 1);
        CHECK.due("step(0, 3)", x.step(0, 3), 9);
        CHECK.due("step(0, 10)", x.step(0, 10), -2);
        CHECK.due("step(0, 0)", x.step(0, 0), -2);
        CHECK.due("step(1, 0)", x.step(1, 0), -1);
        CHECK.due("step(-1, 1)", x.step(-1, 1), -1);
        CHECK.due("unchanged", x.of(0, 5), 3);
        // it goes in HOURS 0, 3, 6
        int[] doors = {2, 2, 2, 1, 1, 1, 2, 2};
        for (int hour = 0; hour < doors.length; hour++) {
            x.go(0);
            CHECK.due("door behind hour " + hour, x.of(0, 4), doors[hour]);
        }
    }

    private static void ofOne() {
        CHECK.part("promise 8");
        UmbrellaDoors x = new UmbrellaDoors();
        x.person(5, 7, 31);
        int[] want = {5, 7, 3, 1, 3, 1, 0, 0};
        for (int what = 0; what < want.length; what++) {
            CHECK.due("of(0, " + what + ")", x.of(0, what), want[what]);
        }
        CHECK.due("of(0, 8)", x.of(0, 8), -1);
        CHECK.due("of(0, -1)", x.of(0, -1), -1);
        CHECK.due("of(1, 0)", x.of(1, 0), -1);
        CHECK.due("of(-1, 0)", x.of(-1, 0), -1);
        x.go(0);
        CHECK.due("where it is", x.of(0, 4), 1);
        CHECK.due("a stays a", x.of(0, 2), 3);
    }

    /** Whether one of a KIND with v would take, with so many standing here and there: 2 in FINE, 1 in rain, together. */
    private static int takes(String town, int kind, int v, int here, int there) {
        UmbrellaDoors x = Check.in(town);
        x.person(kind, v, 12);
        x.step(0, 9);
        x.go(0);
        x.step(0, 7);
        // it walked in HOUR 0 and is at its b; HOUR 1 comes, in which its STEP says no
        x.stand(2, here);
        x.stand(1, there);
        return x.of(0, 6) * 2 + x.of(0, 7);
    }

    private static void wouldTake() {
        CHECK.part("promise 8, taking");
        String dry = "wet 9";
        for (int kind = 0; kind < 7; kind++) {
            CHECK.due("none stands for kind " + kind, takes(dry, kind, 0, 0, 0), 0);
        }
        CHECK.due("walker", takes(dry, 0, 0, 9, 0), 1);
        CHECK.due("ahead, v 0", takes(dry, 1, 0, 1, 9), 3);
        CHECK.due("ahead, v 1", takes(dry, 1, 1, 1, 9), 1);
        // RAIN of HOUR 2, behind a FINE one
        CHECK.due("ahead, 4 of 4", takes("rain 4 h=2&s=0", 1, 4, 1, 0), 3);
        CHECK.due("ahead, 4 of 5", takes("rain 4 h=2&s=0", 1, 5, 1, 0), 1);
        CHECK.due("ahead, behind rain alone", takes("rain 4 h=2&s=1", 1, 4, 1, 0), 1);
        CHECK.due("ahead, of this hour", takes("rain 4 h=1", 1, 4, 1, 0), 1);
        CHECK.due("back, fewer than v", takes(dry, 2, 3, 2, 0), 1);
        CHECK.due("back, v and more", takes(dry, 2, 3, 3, 2), 3);
        CHECK.due("back, v but no more than there", takes(dry, 2, 3, 3, 3), 1);
        CHECK.due("hardy", takes(dry, 3, 2, 1, 0), 1);
        CHECK.due("hardy, hour 1 modulo 10", takes(dry, 3, 1, 1, 0), 0);
        CHECK.due("always", takes(dry, 4, 9, 1, 9), 3);
        CHECK.due("sharing as back", takes(dry, 5, 1, 1, 0), 3);
        CHECK.due("sharing as back", takes(dry, 5, 2, 1, 0), 1);
        CHECK.due("faithful, the last one", takes(dry, 6, 1, 1, 0), 1);
        CHECK.due("faithful, two", takes(dry, 6, 1, 2, 0), 3);
        CHECK.due("faithful, fewer than v", takes(dry, 6, 3, 2, 0), 1);
        UmbrellaDoors x = new UmbrellaDoors();
        x.person(3, 1, 1);
        x.stand(0, 1);
        x.stand(1, 1);
        for (int k = 0; k < 11; k++) {
            x.go(0);
        }
        CHECK.due("hardy, hour 11", x.of(0, 7), 0);
    }

    private static void goes() {
        CHECK.part("promise 9");
        UmbrellaDoors x = Check.in("wet 20;carry 3");
        CHECK.due("go(2)", x.go(2), -1002);
        CHECK.due("go(-1)", x.go(-1), -1002);
        CHECK.due("no hour by that", x.told(4), 0);
        CHECK.due("nobody", x.go(1), 0);
        x.person(0, 0, 1);
        x.person(0, 0, 1);
        x.person(4, 0, 1);
        Check.stands(x, 2, 0, 0, 0);
        // the first two take, the third finds none
        CHECK.due("two take, one is wet", x.go(1), 20);
        CHECK.due("stands", Check.standing(x), 200);
        // all are at 1: only ALWAYS takes in FINE
        CHECK.due("one carries", x.go(0), 3);
        CHECK.due("stands", Check.standing(x), 1100);
        CHECK.due("the first takes, two are wet", x.go(1), 40);
        CHECK.due("stands", Check.standing(x), 200);
        CHECK.due("hour", x.told(4), 4);
        // each by how STANDS are then: 2, then 1 is no more than the 1 that is not yet put down
        x = new UmbrellaDoors();
        x.person(2, 0, 1);
        x.person(2, 0, 1);
        x.person(2, 0, 10);
        Check.stands(x, 3, 1, 0, 0);
        CHECK.due("back twice", x.go(0), 2);
        CHECK.due("stands", Check.standing(x), 1300);
        // what is brought to a DOOR can't be taken there in the same HOUR
        x = new UmbrellaDoors();
        x.person(0, 0, 1);
        x.person(0, 0, 10);
        Check.stands(x, 1, 0, 0, 0);
        CHECK.due("the second one is wet", x.go(1), 9);
        CHECK.due("stands", Check.standing(x), 100);
        // more calls than are promised, but no fewer come to HOUR 999
        x = new UmbrellaDoors();
        for (int k = 0; k < 999; k++) {
            CHECK.due("hour by hour", x.go(0), 0);
        }
        CHECK.due("HOUR 999", x.told(4), 999);
        CHECK.due("STATE", x.go(0), -1003);
        CHECK.due("BAD ahead of STATE", x.go(2), -1002);
        CHECK.due("HOUR 999 stays", x.told(4), 999);
        // HARDY is wet by its will
        x = new UmbrellaDoors();
        x.person(3, 0, 1);
        x.stand(0, 5);
        CHECK.due("hardy", x.go(1), 9);
        CHECK.due("stands", Check.standing(x), 5000);
    }

    private static void sharing() {
        CHECK.part("promise 9, sharing");
        UmbrellaDoors x = new UmbrellaDoors();
        x.person(0, 0, 1);
        x.person(5, 0, 1);
        x.person(5, 0, 1);
        x.stand(0, 1);
        CHECK.due("two go along dry", x.go(1), 0);
        x = new UmbrellaDoors();
        x.person(5, 0, 1);
        x.person(0, 0, 2);
        x.person(5, 0, 1);
        x.person(5, 0, 21);
        Check.stands(x, 0, 0, 0, 0);
        CHECK.due("nobody took one", x.go(1), 36);
        x = new UmbrellaDoors();
        x.person(0, 0, 2);
        x.person(5, 0, 1);
        x.stand(0, 1);
        CHECK.due("to another door", x.go(1), 9);
        x = new UmbrellaDoors();
        x.person(0, 0, 21);
        x.person(5, 0, 1);
        x.stand(2, 1);
        CHECK.due("from another door", x.go(1), 9);
        x = new UmbrellaDoors();
        x.person(0, 0, 10);
        x.person(5, 0, 1);
        x.stand(1, 1);
        CHECK.due("the other way", x.go(1), 9);
        x = new UmbrellaDoors();
        x.person(0, 0, 1);
        x.person(2, 0, 1);
        x.stand(0, 1);
        CHECK.due("only SHARING shares", x.go(1), 9);
        x = Check.in("lost 1 p=0");
        x.person(0, 0, 1);
        x.person(5, 0, 1);
        x.stand(0, 1);
        CHECK.due("dry, though it is lost on the way", x.go(1), 0);
        CHECK.due("it is lost", x.count(1), 0);
        // only in this HOUR
        x = new UmbrellaDoors();
        x.person(0, 0, 1);
        x.person(5, 0, 1);
        x.step(1, 1);
        x.stand(0, 1);
        x.go(1);
        x.go(0);
        x.stand(0, 0);
        x.stand(1, 0);
        CHECK.due("not of an earlier HOUR", x.go(1), 18);
    }

    /** What stands behind the HOURS with skies, of one ALWAYS between 0 and 1 with 9 at each. */
    private static int behind(String town, int hours, int sky) {
        UmbrellaDoors x = Check.in(town);
        x.person(4, 0, 1);
        Check.stands(x, 9, 8, 0, 0);
        for (int k = 0; k < hours; k++) {
            x.go(sky);
        }
        return x.count(1);
    }

    private static void lostOnes() {
        CHECK.part("promise 9, lost");
        CHECK.due("every hour", behind("lost 1 h<24", 4, 0), 13);
        CHECK.due("every 2nd: hours 1, 3", behind("lost 2 h<24", 4, 0), 15);
        CHECK.due("every 3rd: hour 2", behind("lost 3 h<24", 4, 0), 16);
        CHECK.due("n 0: never", behind("lost 0 h<24", 4, 0), 17);
        CHECK.due("every 5th: not yet", behind("lost 5 h<24", 4, 0), 17);
        CHECK.due("every 5th", behind("lost 5 h<24", 5, 0), 16);
        CHECK.due("s of this hour", behind("lost 1 s=1", 4, 0), 17);
        CHECK.due("s of this hour", behind("lost 1 s=1", 4, 1), 13);
        CHECK.due("h of this hour", behind("lost 1 h=2", 4, 0), 16);
        CHECK.due("h modulo 24", behind("lost 1 h=0", 25, 0), 15);
        CHECK.due("p", behind("lost 1 p=0", 4, 0), 13);
        CHECK.due("not p", behind("lost 1 p=1", 4, 0), 17);
        CHECK.due("d from which it goes", behind("lost 1 d=1", 4, 0), 15);
        CHECK.due("u ahead of its taking", behind("lost 1 u=9&d=0", 1, 0), 16);
        CHECK.due("u ahead of its taking", behind("lost 1 u=8&d=0", 1, 0), 17);
        CHECK.due("some of them", behind("lost 2 h<24;lost 3 h<24;lost 1 p=3", 4, 0), 14);
        CHECK.due("once only", behind("lost 1 h<24;lost 1 p=0", 4, 0), 13);
    }

    private static void overfull() {
        CHECK.part("promise 9, 9 at most");
        UmbrellaDoors x = new UmbrellaDoors();
        x.person(4, 0, 1);
        x.person(4, 0, 1);
        x.person(4, 0, 1);
        Check.stands(x, 3, 8, 0, 0);
        x.row(0);
        CHECK.due("two are gone", x.hand(1, 6), 2);
        x.go(0);
        CHECK.due("stands", Check.standing(x), 900);
        x = new UmbrellaDoors();
        x.person(4, 0, 1);
        x.person(4, 0, 10);
        Check.stands(x, 9, 9, 0, 0);
        x.go(0);
        CHECK.due("room by one that went", Check.standing(x), 9900);
    }

    private static void rows() {
        CHECK.part("promise 10");
        UmbrellaDoors x = new UmbrellaDoors();
        CHECK.due("row(-1)", x.row(-1), 0);
        CHECK.due("row(2)", x.row(2), -2);
        CHECK.due("row(-2)", x.row(-2), -2);
        for (int k = 1; k <= 20; k++) {
            CHECK.due("row", x.row(k % 2), k);
        }
        CHECK.due("FULL", x.row(0), -4);
        CHECK.due("BAD ahead of FULL", x.row(2), -2);
        CHECK.due("skies", x.count(3), 20);
        CHECK.due("row(-1)", x.row(-1), 0);
        CHECK.due("empty then", x.count(3), 0);
        CHECK.due("from the start", x.row(1), 1);
    }

    private static void byHand() {
        CHECK.part("promise 11");
        UmbrellaDoors x = Check.in("wet 5;carry 2;lost 2 s=0");
        x.person(0, 0, 1);
        x.person(4, 0, 23);
        x.person(0, 0, 23);
        Check.stands(x, 0, 1, 1, 2);
        x.row(1);
        x.row(0);
        x.row(1);
        // HOUR 0 rain: p0 wet, p1 takes 2 to 3, p2 wet; HOUR 1 fine: p1 carries, and loses it; HOUR 2 rain: p0 wet, p1, p2 wet at 2
        int[] costs = {0, 10, 12, 27};
        int[] wets = {0, 2, 2, 5};
        int[] gone = {0, 0, 1, 1};
        int[] third = {1, 0, 0, 0};
        int[] fourth = {2, 3, 2, 2};
        for (int n = 0; n <= 3; n++) {
            CHECK.due("costs " + n, x.hand(n, 0), costs[n]);
            CHECK.due("wet " + n, x.hand(n, 1), wets[n]);
            CHECK.due("door 0, " + n, x.hand(n, 2), 0);
            CHECK.due("door 1, " + n, x.hand(n, 3), 1);
            CHECK.due("door 2, " + n, x.hand(n, 4), third[n]);
            CHECK.due("door 3, " + n, x.hand(n, 5), fourth[n]);
            CHECK.due("gone " + n, x.hand(n, 6), gone[n]);
        }
        CHECK.due("what 7", x.hand(0, 7), -1001);
        CHECK.due("what -1", x.hand(0, -1), -1001);
        CHECK.due("n 4", x.hand(4, 0), -1002);
        CHECK.due("n -1", x.hand(-1, 0), -1002);
        CHECK.due("NONE ahead of BAD", x.hand(4, 7), -1001);
        CHECK.due("only in thought", x.told(4), 0);
        CHECK.due("only in thought", x.of(0, 4), 0);
        CHECK.due("only in thought", Check.standing(x), 112);
        // from now on, and costs of earlier HOURS are not in it
        x.go(1);
        CHECK.due("from HOUR 1 on", x.hand(1, 6), 0);
        CHECK.due("from HOUR 1 on", x.hand(1, 0), 0);
        CHECK.due("from HOUR 1 on", x.hand(2, 0), 2);
    }
}
