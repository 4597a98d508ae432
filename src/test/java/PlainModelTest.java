/** Long runs of calls against the plain model; which calls, a fixed row of numbers tells. */
public final class PlainModelTest {
    private static final int CALLS = 512;
    private static final String[] TESTS = {"s=0", "s=1", "s<1", "h<12", "h>3", "h=2", "p=0", "p<3", "d=1", "d>1", "u=1", "u<4",
        "u>2", "h=10", "p=99", "d=99", "u=99", "s<2"};
    private static final String NOISE = "rainwetcylos;&|!()<=>shpdu0123456789 x";

    private long seed;
    private UmbrellaDoors real;
    private PlainModel plain;
    private int run;
    private int wrong = 0;
    private final StringBuilder told = new StringBuilder();

    public static void main(String[] args) {
        int first = args.length > 0 ? Integer.parseInt(args[0]) : 0;
        int runs = args.length > 1 ? Integer.parseInt(args[1]) : 60;
        PlainModelTest test = new PlainModelTest();
        for (int run = first; run < first + runs && test.wrong < 5; run++) {
            test.run(run);
            test.neededRun(run);
        }
        System.out.println(runs + " runs, " + test.wrong + " answers not as due");
        if (test.wrong != 0) {
            System.exit(1);
        }
    }

    private int below(int n) {
        seed = seed * 6364136223846793005L + 1442695040888963407L;
        return (int) ((seed >>> 33) % n);
    }

    /** Mostly from .. to, at times beside it. */
    private int about(int from, int to) {
        int which = below(40);
        if (which == 0) {
            return from - 1;
        }
        if (which == 1) {
            return to + 1;
        }
        if (which == 2) {
            int[] wild = {Integer.MIN_VALUE, Integer.MAX_VALUE, -1000000007, 65536};
            return wild[below(4)];
        }
        return from + below(to - from + 1);
    }

    private void run(int number) {
        run = number;
        seed = number * 7919L + 17;
        real = new UmbrellaDoors();
        plain = new PlainModel();
        told.setLength(0);
        int dear = 0;
        int before = wrong;
        if (below(4) > 0) {
            newTown();
        }
        for (int k = calls; k < CALLS && wrong == before; k = Math.max(k + 1, calls)) {
            calls = k + 1;
            int which = below(100);
            if (which < 60) {
                cheap(which);
            } else if (which < 64) {
                newTown();
            } else if (which < 70) {
                due("of", real.of(k % 7, k % 9), plain.of(k % 7, k % 9));
            } else if (which < 80 || dear > 25) {
                small(below(9));
            } else {
                dear++;
                dear(below(8));
            }
        }
        calls = 0;
    }

    /** Few umbrellas, a small CART, and a long ROW: sets of several HOURS are needed. */
    private void neededRun(int number) {
        run = number;
        seed = number * 104729L + 5;
        for (int k = 0; k < 12; k++) {
            real = new UmbrellaDoors();
            plain = new PlainModel();
            told.setLength(0);
            String town = below(2) == 0 ? "cart 1" : "cart 2;lost 3 s=1";
            for (int i = 0; i < town.length(); i++) {
                due("feed " + town.charAt(i), real.feed(town.charAt(i), 1), plain.feed(town.charAt(i), 1));
            }
            due("town", real.town(), plain.town());
            for (int door = 0; door < 4; door++) {
                int n = below(3);
                due("stand " + door + " " + n, real.stand(door, n), plain.stand(door, n));
            }
            for (int people = 1 + below(3); people > 0; people--) {
                cheap(6);
            }
            for (int hours = 5 + below(8); hours > 0; hours--) {
                int sky = below(3) == 0 ? 0 : 1;
                due("row " + sky, real.row(sky), plain.row(sky));
            }
            due("needed", real.needed(), plain.needed());
        }
    }

    private int calls = 0;

    private void due(String call, long got, long want) {
        told.append(call).append('\n');
        if (got != want) {
            wrong++;
            System.out.println("run " + run + ": " + call + " answered " + got + ", due is " + want + ", behind\n" + told);
        }
    }

    private void cheap(int which) {
        if (which < 6) {
            int door = about(0, 3);
            int n = below(3) > 0 ? below(3) : about(0, 9);
            due("stand " + door + " " + n, real.stand(door, n), plain.stand(door, n));
        } else if (which < 14) {
            int kind = about(0, 6);
            int v = below(2) == 0 ? about(0, 9) : about(0, 3);
            int doors = about(0, 3) * 10 + about(0, 3);
            due("person " + kind + " " + v + " " + doors, real.person(kind, v, doors), plain.person(kind, v, doors));
        } else if (which < 18) {
            int person = about(0, 5);
            int n = about(1, below(2) == 0 ? 9 : 2);
            due("step " + person + " " + n, real.step(person, n), plain.step(person, n));
        } else if (which < 38) {
            int sky = about(0, 1);
            due("go " + sky, real.go(sky), plain.go(sky));
        } else if (which < 46) {
            int sky = below(30) == 0 ? -1 : about(0, 1);
            due("row " + sky, real.row(sky), plain.row(sky));
        } else if (which < 54) {
            int n = about(0, 20);
            int what = about(0, 6);
            due("hand " + n + " " + what, real.hand(n, what), plain.hand(n, what));
        } else if (which < 57) {
            int door = about(0, 3);
            int n = about(0, 99);
            due("book " + door + " " + n, real.book(door, n), plain.book(door, n));
        } else {
            due("cart", real.cart(), plain.cart());
        }
    }

    private void small(int which) {
        switch (which) {
            case 0:
            case 1: {
                int person = about(0, 5);
                int act = about(0, 2);
                int x = about(-1000, 1000) * about(1, 4000000);
                due("act " + person + " " + act + " " + x, real.act(person, act, x), plain.act(person, act, x));
                for (int i = -1; i < 9; i++) {
                    due("trace " + i, real.trace(i), plain.trace(i));
                    calls++;
                }
                break;
            }
            case 2: {
                int person = about(0, 5);
                int k = about(0, 6);
                due("as " + person + " " + k, real.as(person, k), plain.as(person, k));
                break;
            }
            case 3:
                if (below(2) == 0) {
                    due("image", real.image(), plain.image());
                } else {
                    due("undo", real.undo(), plain.undo());
                }
                break;
            case 4: {
                int what = about(0, 1);
                due("vanish " + what, real.vanish(what), plain.vanish(what));
                break;
            }
            case 5:
            case 6: {
                int what = about(0, 6);
                due("count " + what, real.count(what), plain.count(what));
                break;
            }
            default: {
                int what = about(0, 5);
                due("told " + what, real.told(what), plain.told(what));
                break;
            }
        }
    }

    private void dear(int which) {
        int person = about(0, 5);
        int part = about(0, 1);
        switch (which) {
            case 0:
            case 1: {
                int n = about(1, 8);
                int what = about(0, 1);
                due("mean " + n + " " + what + " " + part, real.mean(n, what, part), plain.mean(n, what, part));
                break;
            }
            case 2: {
                int n = about(1, below(3) == 0 ? 8 : 4);
                int b = about(0, 100);
                due("least " + n + " " + b, real.least(n, b), plain.least(n, b));
                break;
            }
            case 3: {
                int n = about(1, below(3) == 0 ? 5 : 2);
                int k = about(0, 3);
                due("start " + n + " " + k, real.start(n, k), plain.start(n, k));
                break;
            }
            case 4: {
                int n = about(1, 5);
                due("rule " + person + " " + n, real.rule(person, n), plain.rule(person, n));
                break;
            }
            case 5: {
                int n = about(1, 6);
                due("gather " + n, real.gather(n), plain.gather(n));
                break;
            }
            case 6: {
                int n = about(1, 6);
                due("penny " + person + " " + n + " " + part, real.penny(person, n, part), plain.penny(person, n, part));
                break;
            }
            default:
                due("needed", real.needed(), plain.needed());
                break;
        }
    }

    // ---- texts of TOWNS

    private void newTown() {
        String text = townText();
        if (below(3) == 0) {
            text = spoilt(text);
        }
        int from = 0;
        while (from < text.length()) {
            int n = Math.min(1 + below(8), text.length() - from);
            long w = below(1000) - 500;
            for (int k = 0; k < n; k++) {
                w = w << 8 | text.charAt(from + k);
            }
            due("feed " + text.substring(from, from + n), real.feed(w, n), plain.feed(w, n));
            from += n;
            calls++;
        }
        due("count 5", real.count(5), plain.count(5));
        due("town", real.town(), plain.town());
        for (int what = 0; what < 4; what++) {
            due("told " + what, real.told(what), plain.told(what));
        }
        calls += 6;
    }

    private String townText() {
        StringBuilder text = new StringBuilder();
        int clauses = below(12) == 0 ? 9 + below(3) : 1 + below(6);
        for (int k = 0; k < clauses; k++) {
            text.append(k == 0 ? "" : ";").append(clauseText(clauses > 8));
        }
        return text.toString();
    }

    private String clauseText(boolean brief) {
        switch (below(brief ? 5 : 9)) {
            case 0:
                return "wet " + below(below(2) == 0 ? 100 : 12);
            case 1:
                return "carry " + below(12);
            case 2:
                return "cart " + below(6);
            case 3:
                return "lost " + below(4) + " " + (brief ? "s=1" : either(0));
            case 4:
                return "rain " + below(6) + " " + (brief ? "s=0" : either(0));
            case 5:
            case 6:
                return "lost " + below(6) + " " + either(0);
            default:
                return "rain " + below(10) + " " + either(0);
        }
    }

    private String either(int open) {
        return below(4) == 0 ? both(open) + "|" + either(open) : both(open);
    }

    private String both(int open) {
        return below(4) == 0 ? single(open) + "&" + both(open) : single(open);
    }

    private String single(int open) {
        if (open < 6 && below(5) == 0) {
            return "!" + single(open + 1);
        }
        if (open < 6 && below(6) == 0) {
            return "(" + either(open + 1) + ")";
        }
        return TESTS[below(TESTS.length)];
    }

    /** One or two bytes left out, put in, or changed; or cut off. */
    private String spoilt(String text) {
        StringBuilder out = new StringBuilder(text);
        for (int k = 0; k <= below(2) && out.length() > 0; k++) {
            int place = below(out.length());
            char sign = below(10) == 0 ? (char) below(256) : NOISE.charAt(below(NOISE.length()));
            switch (below(4)) {
                case 0:
                    out.deleteCharAt(place);
                    break;
                case 1:
                    out.insert(place, sign);
                    break;
                case 2:
                    out.setCharAt(place, sign);
                    break;
                default:
                    out.setLength(place);
                    break;
            }
        }
        return out.toString();
    }
}
