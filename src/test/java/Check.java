/** Counts the answers of a test that are not due, and prints them. */
final class Check {
    private int wrong = 0;
    private int seen = 0;
    private String part = "";

    /** From here on the answers belong to this part of the test. */
    void part(String name) {
        part = name;
    }

    void due(String call, long got, long want) {
        seen++;
        if (got != want) {
            wrong++;
            System.out.println(part + ": " + call + " answered " + got + ", due is " + want);
        }
    }

    /** Ends the test: exit code 1, if an answer was wrong. */
    void end() {
        System.out.println(seen + " answers, " + wrong + " of them not as due");
        if (wrong != 0) {
            System.exit(1);
        }
    }

    /** Feeds a text to THE TAPE, a byte a call. */
    static void feed(UmbrellaDoors x, String text) {
        for (int k = 0; k < text.length(); k++) {
            x.feed(text.charAt(k), 1);
        }
    }

    /** Feeds a text and reads it as a TOWN: its answer. */
    static int town(UmbrellaDoors x, String text) {
        feed(x, text);
        return x.town();
    }

    /** A new object with a TOWN. */
    static UmbrellaDoors in(String text) {
        UmbrellaDoors x = new UmbrellaDoors();
        town(x, text);
        return x;
    }

    static void stands(UmbrellaDoors x, int s0, int s1, int s2, int s3) {
        x.stand(0, s0);
        x.stand(1, s1);
        x.stand(2, s2);
        x.stand(3, s3);
    }

    /** What stands at all DOORS, as the digits of one number. */
    static int standing(UmbrellaDoors x) {
        int digits = 0;
        for (int what = 2; what <= 5; what++) {
            digits = digits * 10 + x.hand(0, what);
        }
        return digits;
    }

    /** All that can be asked of an object but THE TRACE, in some 170 calls; none of them changes anything. */
    static String seen(UmbrellaDoors x) {
        StringBuilder all = new StringBuilder();
        for (int what = 0; what < 6; what++) {
            all.append(x.count(what)).append(' ').append(x.told(what)).append(' ');
        }
        int people = x.count(0);
        for (int person = 0; person < people; person++) {
            for (int what = 0; what < 8; what++) {
                all.append(x.of(person, what)).append(' ');
            }
        }
        int skies = x.count(3);
        for (int what = 0; what < 7; what++) {
            for (int n = 0; n <= skies; n += Math.max(1, skies / 4)) {
                all.append(x.hand(n, what)).append(' ');
            }
        }
        for (int n = 1; n <= 8; n++) {
            all.append(x.mean(n, 0, 0)).append('/').append(x.mean(n, 0, 1)).append(' ');
            all.append(x.mean(n, 1, 0)).append('/').append(x.mean(n, 1, 1)).append(' ');
        }
        return all.append(x.vanish(0)).append(' ').append(x.vanish(1)).append(' ').append(x.needed()).toString();
    }
}
