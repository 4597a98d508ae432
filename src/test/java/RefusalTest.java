import java.util.ArrayList;
import java.util.List;

/** REFUSALS: of several the first one told; they change nothing. And what is only asked changes nothing. */
public final class RefusalTest {
    private static final Check CHECK = new Check();
    private static final int NONE = -1, BAD = -2, STATE = -3, FULL = -4;
    private static final int MIN = Integer.MIN_VALUE, MAX = Integer.MAX_VALUE;
    private static final int[] WRONG = {-1, 100, MIN, MAX};

    private interface Call {
        long on(UmbrellaDoors x);
    }

    public static void main(String[] args) {
        firstOneTold();
        changeNothing();
        askedOnly();
        CHECK.end();
    }

    /** As full as one can be: 5 TOWNS, 6 PEOPLE, 120 bytes, 20 SKIES, 10 rows; 36 UMBRELLAS. */
    private static UmbrellaDoors full() {
        UmbrellaDoors x = new UmbrellaDoors();
        for (int k = 0; k < 4; k++) {
            Check.town(x, "wet 1");
        }
        Check.town(x, "wet 8;carry 3;cart 2;rain 4 s=0;rain 2 h<5;lost 3 p=2");
        for (int k = 0; k < 6; k++) {
            x.person(k + 1, k, k % 2 == 0 ? 12 : 30);
            x.step(k, k % 3 + 1);
        }
        Check.stands(x, 9, 9, 9, 9);
        for (int k = 0; k < 15; k++) {
            x.feed(0x7765742035777772L, 8);
        }
        for (int k = 0; k < 20; k++) {
            x.row(k % 3 == 0 ? 1 : 0);
        }
        for (int k = 0; k < 10; k++) {
            x.book(k % 3, 7 * k);
        }
        x.go(1);
        return x;
    }

    /** Two of the PEOPLE, and room for all. */
    private static UmbrellaDoors some() {
        UmbrellaDoors x = Check.in("wet 7;rain 5 s=1;rain 3 h<9");
        x.person(2, 1, 12);
        x.person(5, 0, 21);
        Check.stands(x, 1, 2, 0, 3);
        x.row(1);
        x.row(0);
        x.book(1, 4);
        Check.feed(x, "wet 1");
        return x;
    }

    private static void first(String name, long want, Call call) {
        CHECK.due(name + ", as full as can be", call.on(full()), want);
    }

    private static void firstOneTold() {
        CHECK.part("REFUSALS, of several the first one told");
        first("stand: NONE, BAD", NONE, x -> x.stand(4, 10));
        first("feed: BAD, FULL", BAD, x -> x.feed(0, 9));
        first("feed: FULL", FULL, x -> x.feed(0, 1));
        first("town: FULL, a FAULT", FULL, x -> x.town());
        first("person: NONE (kind), BAD, FULL", NONE, x -> x.person(7, 10, 11));
        first("person: NONE (doors), BAD, FULL", NONE, x -> x.person(0, 10, 44));
        first("person: NONE (doors), FULL", NONE, x -> x.person(0, 0, 14));
        first("person: BAD (v), FULL", BAD, x -> x.person(0, 10, 1));
        first("person: BAD (a is b), FULL", BAD, x -> x.person(0, 0, 11));
        first("person: FULL", FULL, x -> x.person(0, 0, 1));
        first("step: NONE, BAD", NONE, x -> x.step(6, 10));
        first("row: BAD, FULL", BAD, x -> x.row(2));
        first("row: FULL", FULL, x -> x.row(1));
        first("hand: NONE, BAD", -1001, x -> x.hand(21, 7));
        first("start: NONE, BAD", NONE, x -> x.start(6, 4));
        first("start: -9", -9, x -> x.start(5, 0));
        first("rule: NONE, BAD", NONE, x -> x.rule(6, 7));
        first("book: NONE, BAD, FULL", NONE, x -> x.book(4, 100));
        first("book: NONE, FULL", NONE, x -> x.book(4, 1));
        first("book: BAD, FULL", BAD, x -> x.book(3, 100));
        first("book: FULL", FULL, x -> x.book(3, 99));
        first("undo: STATE", STATE, x -> x.undo());
    }

    private static List<Call> refusedOfAll() {
        List<Call> calls = new ArrayList<>();
        for (int wrong : WRONG) {
            calls.add(x -> x.stand(wrong, 5));
            calls.add(x -> x.stand(0, wrong));
            calls.add(x -> x.feed('9', wrong));
            calls.add(x -> x.told(wrong));
            calls.add(x -> x.person(wrong, 0, 1));
            calls.add(x -> x.person(0, wrong, 1));
            calls.add(x -> x.person(0, 0, wrong));
            calls.add(x -> x.step(wrong, 5));
            calls.add(x -> x.step(0, wrong));
            calls.add(x -> x.of(wrong, 0));
            calls.add(x -> x.of(0, wrong));
            calls.add(x -> x.go(wrong));
            calls.add(x -> x.row(wrong == -1 ? -2 : wrong));
            calls.add(x -> x.hand(wrong, 0));
            calls.add(x -> x.hand(0, wrong));
            calls.add(x -> x.rule(wrong, 1));
            calls.add(x -> x.rule(0, wrong));
            calls.add(x -> x.gather(wrong));
            calls.add(x -> x.least(wrong, 0));
            calls.add(x -> x.least(1, wrong == 100 ? 101 : wrong));
            calls.add(x -> x.start(wrong, 0));
            calls.add(x -> x.start(1, wrong));
            calls.add(x -> x.book(wrong, 1));
            calls.add(x -> x.book(0, wrong));
            calls.add(x -> x.vanish(wrong));
            calls.add(x -> x.as(wrong, 0));
            calls.add(x -> x.as(0, wrong));
            calls.add(x -> x.trace(wrong));
            calls.add(x -> x.count(wrong));
        }
        calls.add(x -> x.person(0, 0, 22));
        calls.add(x -> x.undo());
        return calls;
    }

    private static List<Call> refusedNumbers() {
        List<Call> calls = new ArrayList<>();
        for (int wrong : WRONG) {
            for (int part = 0; part <= 1; part++) {
                int half = part;
                calls.add(x -> x.mean(wrong, half, 0));
                calls.add(x -> x.mean(1, wrong, half));
                calls.add(x -> x.mean(1, half, wrong));
                calls.add(x -> x.penny(wrong, 1, half));
                calls.add(x -> x.penny(0, wrong, half));
                calls.add(x -> x.penny(0, 1, wrong));
            }
        }
        return calls;
    }

    private static List<Call> refusedOfFull() {
        List<Call> calls = new ArrayList<>();
        calls.add(x -> x.feed(0, 8));
        calls.add(x -> x.feed('9', 1));
        calls.add(x -> x.town());
        calls.add(x -> x.person(4, 0, 1));
        calls.add(x -> x.row(0));
        calls.add(x -> x.row(1));
        calls.add(x -> x.book(3, 99));
        calls.add(x -> x.start(1, 0));
        return calls;
    }

    private static void unchanged(String name, UmbrellaDoors x, Call call, boolean refused) {
        x.act(0, 2, 5);
        int first = x.trace(0);
        int bodies = x.count(6);
        String before = Check.seen(x);
        long answer = call.on(x);
        if (refused) {
            CHECK.due(name + " is refused: " + answer, answer < 0 ? 1 : 0, 1);
        }
        CHECK.due(name + " changes nothing", Check.seen(x).equals(before) ? 1 : 0, 1);
        CHECK.due(name + " leaves THE TRACE", x.trace(0), first);
        CHECK.due(name + " leaves its bodies", x.count(6), bodies);
    }

    private static void changeNothing() {
        CHECK.part("They change nothing");
        List<Call> calls = refusedOfAll();
        calls.addAll(refusedNumbers());
        for (int k = 0; k < calls.size(); k++) {
            unchanged("refusal " + k, some(), calls.get(k), true);
            unchanged("refusal " + k + " of a full one", full(), calls.get(k), true);
            // THE TAPE as it was fed
            UmbrellaDoors x = some();
            calls.get(k).on(x);
            CHECK.due("refusal " + k + ": town of wet 12", Check.town(x, "2"), 1);
            CHECK.due("refusal " + k + ": wet", x.told(1), 12);
        }
        List<Call> ofFull = refusedOfFull();
        for (int k = 0; k < ofFull.size(); k++) {
            unchanged("refusal " + k + " by fullness", full(), ofFull.get(k), true);
        }
    }

    private static void askedOnly() {
        CHECK.part("What is asked and thought changes nothing");
        List<Call> calls = new ArrayList<>();
        for (int n = 1; n <= 8; n++) {
            int hours = n;
            calls.add(x -> x.mean(hours, 0, 0));
            calls.add(x -> x.mean(hours, 1, 1));
            calls.add(x -> x.least(hours, 5));
            calls.add(x -> x.start(Math.min(5, hours), 3));
            calls.add(x -> x.rule(1, Math.min(6, hours)));
            calls.add(x -> x.gather(Math.min(6, hours)));
            calls.add(x -> x.penny(0, Math.min(6, hours), 0));
            calls.add(x -> x.hand(Math.min(2, hours), 0));
            calls.add(x -> x.of(0, hours - 1));
            calls.add(x -> x.as(0, hours - 2));
        }
        calls.add(x -> x.needed());
        calls.add(x -> x.vanish(1));
        calls.add(x -> x.image());
        for (int k = 0; k < calls.size(); k++) {
            unchanged("question " + k, some(), calls.get(k), false);
            unchanged("question " + k + " of a full one", full(), calls.get(k), false);
        }
    }
}
