import java.lang.reflect.InvocationTargetException;
import java.lang.reflect.Method;
import java.util.function.Consumer;
import java.util.function.Supplier;

/** What the tests share: comparing answers, and counting those that are not as due. */
final class Check {
    static final Class<IndexOutOfBoundsException> NO_SUCH = IndexOutOfBoundsException.class;
    static final Class<IllegalArgumentException> WRONG = IllegalArgumentException.class;
    static final Class<IllegalStateException> NOT_NOW = IllegalStateException.class;

    /** Numbers that no bag and no flight and no chute and no place has, and that no setting takes. */
    static final int[] FAR_OFF = {Integer.MIN_VALUE, -2, 99, Integer.MAX_VALUE};

    private static int wrong = 0;
    private static int compared = 0;
    private static String sentence = "";

    private Check() {
    }

    /** A call that is expected to throw. */
    interface Call {
        void run();
    }

    static void due(String call, Object got, Object want) {
        compared++;
        if (!got.equals(want)) {
            wrong++;
            System.out.println(sentence + call + " answered " + got + ", due is " + want);
        }
    }

    /** Runs each test of the class that stands for a sentence. */
    static void sentences(Class<?> tests) throws IllegalAccessException {
        int run = 0;
        for (Method test : tests.getDeclaredMethods()) {
            Sentence its = test.getAnnotation(Sentence.class);
            if (its == null) {
                continue;
            }
            run++;
            sentence = "[" + test.getName() + "] " + its.value() + " | ";
            int before = compared;
            try {
                test.setAccessible(true);
                test.invoke(null);
            } catch (InvocationTargetException thrown) {
                due("the test was ended by what", thrown.getCause().toString(), "nothing");
            }
            due("the test compares something", compared > before, true);
        }
        sentence = "";
        due("there are tests", run > 0, true);
        System.out.println(run + " sentences");
        finish();
    }

    /**
     * The call throws exactly this exception, and the hall's digest is as before. It asks little of the hall, so that
     * many such calls on one object stay within the 512 of the document; refused() looks closer.
     */
    static void dueThrow(BagCarousel hall, String call, Class<? extends RuntimeException> want, Call body) {
        long before = hall.digest();
        due(call + " throws", thrownBy(body), want);
        due("the digest behind " + call, hall.digest(), before);
    }

    /** The call throws exactly this exception, and the hall goes on as one that never was asked for it. */
    static void refused(Supplier<BagCarousel> maker, String call, Class<? extends RuntimeException> want,
            Consumer<BagCarousel> body) {
        BagCarousel asked = maker.get();
        due(call + " throws", thrownBy(() -> body.accept(asked)), want);
        dueAlike("behind " + call, asked, maker.get());
    }

    /** The call answers this, and the hall goes on as one that never was asked for it. */
    static void changesNothing(Supplier<BagCarousel> maker, String call, Consumer<BagCarousel> body) {
        BagCarousel asked = maker.get();
        body.accept(asked);
        dueAlike("behind " + call, asked, maker.get());
    }

    private static Object thrownBy(Call body) {
        try {
            body.run();
            return "nothing";
        } catch (RuntimeException thrown) {
            return thrown.getClass();
        }
    }

    /** Two halls tell the same, now and in the two hours that follow: so the line is the same too. */
    private static void dueAlike(String when, BagCarousel got, BagCarousel want) {
        due("the hall " + when, look(got), look(want));
        for (int minutes = 3; minutes <= 120; minutes += 3) {
            got.pass(3);
            want.pass(3);
            due("the digest " + when + " and " + minutes + " minutes", got.digest(), want.digest());
        }
    }

    /** All that the hall tells, and what it says will be: the order of the line shows in that. */
    static String look(BagCarousel hall) {
        StringBuilder text = new StringBuilder();
        text.append(hall.digest()).append(" mean ").append(hall.meanMisses()).append(" belt");
        for (int place = 0; place < 12; place++) {
            text.append(' ').append(hall.bagAt(place));
        }
        text.append(" bags");
        for (int bag = 0; bag < hall.bags(); bag++) {
            text.append(' ').append(hall.minutesUntilChute(bag));
        }
        text.append(" flights");
        for (int flight = 0; flight < hall.flights(); flight++) {
            text.append(' ').append(hall.readyAfter(flight, 60));
        }
        return text.toString();
    }

    /** Tells how it went; ends with exit code 1 if an answer was not as due. */
    static void finish() {
        if (wrong != 0) {
            System.out.println(wrong + " of " + compared + " answers are not as due");
            System.exit(1);
        }
        System.out.println("all " + compared + " answers are as due");
    }
}
