/** What the tests share: comparing answers, and counting those that are not as due. */
final class Check {
    private static int wrong = 0;
    private static int compared = 0;

    private Check() {
    }

    /** A call that is expected to throw. */
    interface Call {
        void run();
    }

    static void due(String call, Object got, Object want) {
        compared++;
        if (!got.equals(want)) {
            wrong++;
            System.out.println(call + " answered " + got + ", due is " + want);
        }
    }

    /** The call throws exactly this exception, and the hall answers as before. */
    static void dueThrow(BagCarousel hall, String call, Class<? extends RuntimeException> want, Call body) {
        String before = look(hall);
        Object got = "nothing";
        try {
            body.run();
        } catch (RuntimeException thrown) {
            got = thrown.getClass();
        }
        due(call + " throws", got, want);
        due("the hall behind " + call, look(hall), before);
    }

    /** All that the hall tells, and what it says will be: the order of the line shows in that. */
    static String look(BagCarousel hall) {
        StringBuilder text = new StringBuilder();
        text.append(hall.digest()).append(" mean ").append(hall.meanMisses()).append(" belt");
        for (int place = 0; place < 12; place++) {
            text.append(' ').append(hall.bagAt(place));
        }
        text.append(" bags");
        for (int bag = 0; bag < hall.bags(); bag++) {
            text.append(' ').append(hall.minutesUntilChute(bag));
        }
        text.append(" flights");
        for (int flight = 0; flight < hall.flights(); flight++) {
            text.append(' ').append(hall.readyAfter(flight, 60));
        }
        return text.toString();
    }

    /** Tells how it went; ends with exit code 1 if an answer was not as due. */
    static void finish() {
        if (wrong != 0) {
            System.out.println(wrong + " of " + compared + " answers are not as due");
            System.exit(1);
        }
        System.out.println("all " + compared + " answers are as due");
    }
}
