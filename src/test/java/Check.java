/** Counts answers that are not as due, and tells courts by text. */
final class Check {
    private final String test;
    private int asked;
    private int wrong;

    Check(String theTest) {
        test = theTest;
    }

    void due(String what, long got, long want) {
        asked++;
        if (got != want) {
            wrong++;
            System.out.println(test + ": " + what + " answered " + got + ", due is " + want);
        }
    }

    void due(String what, boolean got, boolean want) {
        due(what, got ? 1 : 0, want ? 1 : 0);
    }

    void end() {
        System.out.println(test + ": " + (asked - wrong) + " of " + asked + " answers are as due");
        if (wrong > 0) {
            System.exit(1);
        }
    }

    static void write(ShakingCourt court, String text) {
        for (long[] three : Texts.packed(text)) {
            court.feed(three[0], three[1], three[2]);
        }
    }

    static int tellCourt(ShakingCourt court, String text) {
        write(court, text);
        return court.court();
    }

    static int tellReign(ShakingCourt court, String text) {
        write(court, text);
        return court.reign();
    }

    ShakingCourt courtOf(String text) {
        ShakingCourt court = new ShakingCourt();
        due("court " + text, tellCourt(court, text), 0);
        return court;
    }
}
