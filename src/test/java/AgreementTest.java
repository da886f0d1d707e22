import java.lang.reflect.InvocationTargetException;
import java.lang.reflect.Method;
import java.util.ArrayList;
import java.util.List;
import java.util.TreeSet;

/** Long runs of mixed calls, the same ones each time: BagCarousel answers each as Model does. */
public final class AgreementTest {
    private static final int RUNS = 400;
    private static final int CALLS = 512;

    /** Each method: how often it is called, its name, and what its arguments are. */
    private static final String[] METHODS = {
        "3 addFlight", "6 giveChute flight chute", "4 setReader strength", "4 setRoom chute room",
        "24 checkIn flight size smudge", "14 carry bag", "14 forward bag flight", "5 sweep chute",
        "3 depart flight", "20 pass minutes",
        "2 flightOf bag", "2 whereIs bag", "2 placeOf bag", "2 chuteOf bag", "2 readFor bag", "2 missesOf bag",
        "2 isMisrouted bag", "2 hasOpenFile bag", "2 bagAt place", "2 bagsIn chute", "2 misroutedIn chute",
        "2 roomOf chute", "2 chuteOfFlight flight", "2 isGone flight", "2 readyOf flight", "2 missingOf flight",
        "1 minute", "1 flights", "1 bags", "1 inLine", "1 onBelt", "1 atDesk", "1 openFiles", "1 closedFiles",
        "1 reader", "5 minutesUntilChute bag", "4 readyAfter flight minutes", "4 bestChute flight minutes",
        "2 meanMisses", "12 digest",
    };

    private static final int[] FAR = {Integer.MIN_VALUE, Integer.MAX_VALUE, -1, 64, 1 << 16};

    private static long seed;
    private static final TreeSet<String> outcomes = new TreeSet<>();

    public static void main(String[] args) throws Exception {
        List<String> drawn = new ArrayList<>();
        for (String method : METHODS) {
            String[] parts = method.split(" ", 2);
            for (int i = 0; i < Integer.parseInt(parts[0]); i++) {
                drawn.add(parts[1]);
            }
        }
        for (int run = 0; run < RUNS; run++) {
            seed = run * 7919L + 1;
            oneRun(run, drawn);
        }
        everyOutcomeWasSeen();
        Check.finish();
    }

    private static void oneRun(int run, List<String> drawn) throws Exception {
        BagCarousel hall = new BagCarousel();
        Model model = new Model();
        // Few early departures let full halls arise, many let forwarded bags and closed files arise.
        int quiet = draw(300);
        for (int call = 0; call < CALLS; call++) {
            String[] words = drawn.get(draw(drawn.size())).split(" ");
            if (words[0].equals("depart") && call < quiet) {
                continue;
            }
            Object[] values = new Object[words.length - 1];
            for (int i = 0; i < values.length; i++) {
                values[i] = argument(words[i + 1], model);
            }
            Object got = answer(hall, words[0], values);
            Object want = answer(model, words[0], values);
            outcomes.add(words[0] + (want instanceof Class ? " " + ((Class<?>) want).getSimpleName() : ""));
            Check.due("run " + run + ", call " + call + ": " + words[0] + List.of(values), got, want);
        }
    }

    private static Object answer(Object target, String name, Object[] values) throws Exception {
        Class<?>[] types = new Class<?>[values.length];
        java.util.Arrays.fill(types, int.class);
        Method method = target.getClass().getDeclaredMethod(name, types);
        try {
            return method.invoke(target, values);
        } catch (InvocationTargetException thrown) {
            return thrown.getCause().getClass();
        }
    }

    private static int argument(String kind, Model model) {
        if (draw(60) == 0) {
            return FAR[draw(FAR.length)];
        }
        switch (kind) {
            case "flight":
                return draw(25) == 0 ? model.flights() : draw(Math.max(model.flights(), 1));
            case "bag":
                return draw(25) == 0 ? model.bags() : draw(Math.max(model.bags(), 1));
            case "chute":
                return draw(25) == 0 ? 4 : draw(4);
            case "place":
                return draw(14) - 1;
            case "strength":
                return draw(12) - 1;
            case "smudge":
                return draw(2) == 0 ? draw(4) : draw(11) - 1 + draw(2);
            case "size":
                return draw(11);
            case "room":
                return draw(4) == 0 ? draw(22) : draw(8);
            default:
                return draw(4) == 0 ? draw(62) : draw(9) + 1;
        }
    }

    /** A number from 0 to one less than the limit, the same ones in the same order each time. */
    private static int draw(int limit) {
        seed = seed * 6364136223846793005L + 1442695040888963407L;
        return (int) ((seed >>> 33) % limit);
    }

    /** The runs are worth little if they miss what a method can answer. */
    private static void everyOutcomeWasSeen() {
        for (Method method : BagCarousel.class.getMethods()) {
            if (method.getDeclaringClass() != BagCarousel.class) {
                continue;
            }
            Check.due("the runs saw " + method.getName(), outcomes.contains(method.getName()), true);
            for (Class<?> thrown : method.getExceptionTypes()) {
                String outcome = method.getName() + " " + thrown.getSimpleName();
                Check.due("the runs saw " + outcome, outcomes.contains(outcome), true);
            }
        }
    }
}
