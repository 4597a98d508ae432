/** Counts the answers of a test that are not due, and prints them. */
final class Check {
    private int wrong = 0;
    private int seen = 0;
    private String part = "";

    /** From here on the answers belong to this part of the test. */
    void part(String name) {
        part = name;
    }

    void due(String call, long got, long want) {
        seen++;
        if (got != want) {
            wrong++;
            System.out.println(part + ": " + call + " answered " + got + ", due is " + want);
        }
    }

    /** Ends the test: exit code 1, if an answer was wrong. */
    void end() {
        System.out.println(seen + " answers, " + wrong + " of them not as due");
        if (wrong != 0) {
            System.exit(1);
        }
    }

    /** Feeds a text to THE TAPE, a byte a call. */
    static void feed(UmbrellaDoors x, String text) {
        for (int k = 0; k < text.length(); k++) {
            x.feed(text.charAt(k), 1);
        }
    }

    /** Feeds a text and reads it as a TOWN: its answer. */
    static int town(UmbrellaDoors x, String text) {
        feed(x, text);
        return x.town();
    }

    /** A new object with a TOWN. */
    static UmbrellaDoors in(String text) {
        UmbrellaDoors x = new UmbrellaDoors();
        town(x, text);
        return x;
    }

    static void stands(UmbrellaDoors x, int s0, int s1, int s2, int s3) {
        x.stand(0, s0);
        x.stand(1, s1);
        x.stand(2, s2);
        x.stand(3, s3);
    }

    /** What stands at all DOORS, as the digits of one number. */
    static int standing(UmbrellaDoors x) {
        int digits = 0;
        for (int what = 2; what <= 5; what++) {
            digits = digits * 10 + x.hand(0, what);
        }
        return digits;
    }
}
