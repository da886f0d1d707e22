import java.io.IOException;
import java.nio.file.Files;
import java.nio.file.Path;
import java.util.ArrayList;
import java.util.List;

/** The example in README.md: its calls in their order, each answering what stands behind it there. */
public final class ReadmeTest {
    private static final String FENCE = "```";

    private static final List<String> calls = new ArrayList<>();

    public static void main(String[] args) throws IOException {
        follow();
        Check.due("the calls of README.md", callsTold(), calls);
        Check.finish();
    }

    private static void follow() {
        BagCarousel hall = new BagCarousel();
        made("BagCarousel hall = new BagCarousel();");
        int flight = hall.addFlight();
        made("int flight = hall.addFlight();");
        hall.giveChute(flight, 1);
        made("hall.giveChute(flight, 1);");
        int bag = hall.checkIn(flight, 3, 2);
        made("int bag = hall.checkIn(flight, 3, 2);");
        int smudged = hall.checkIn(flight, 3, 9);
        made("int smudged = hall.checkIn(flight, 3, 9);");
        int big = hall.checkIn(flight, 8, 0);
        made("int big = hall.checkIn(flight, 8, 0);");

        answered("hall.minutesUntilChute(bag);", hall.minutesUntilChute(bag));
        answered("hall.minutesUntilChute(smudged);", hall.minutesUntilChute(smudged));
        answered("hall.readyAfter(flight, 30);", hall.readyAfter(flight, 30));
        answered("hall.bestChute(flight, 30);", hall.bestChute(flight, 30));

        answered("hall.pass(30);", hall.pass(30));
        answered("hall.whereIs(bag);", hall.whereIs(bag));
        answered("hall.whereIs(smudged);", hall.whereIs(smudged));
        answered("hall.whereIs(big);", hall.whereIs(big));
        answered("hall.carry(big);", hall.carry(big));
        answered("hall.depart(flight);", hall.depart(flight));
        answered("hall.openFiles();", hall.openFiles());

        int next = hall.addFlight();
        made("int next = hall.addFlight();");
        answered("hall.forward(smudged, next);", hall.forward(smudged, next));
        answered("hall.closedFiles();", hall.closedFiles());
        Check.dueThrow(hall, "hall.carry(smudged);", Check.NOT_NOW, () -> hall.carry(smudged));
        calls.add("hall.carry(smudged); // throws IllegalStateException");
    }

    private static void made(String call) {
        calls.add(call);
    }

    private static void answered(String call, int answer) {
        calls.add(call + " // " + answer);
    }

    /** The example's calls as README.md tells them, each with the answer behind it but without the reason. */
    private static List<String> callsTold() throws IOException {
        List<String> told = new ArrayList<>();
        boolean inside = false;
        for (String line : Files.readAllLines(Path.of("README.md"))) {
            if (line.startsWith(FENCE)) {
                inside = !inside;
            } else if (inside && !line.isBlank() && !line.startsWith("//")) {
                told.add(withoutReason(line));
            }
        }
        return told;
    }

    private static String withoutReason(String line) {
        String[] parts = line.split(" +// ", 2);
        // What a variable holds is a number of the hall's own choice: there is a remark behind it, no answer.
        if (parts.length == 1 || parts[0].contains(" = ")) {
            return parts[0];
        }
        return parts[0] + " // " + parts[1].split(":", 2)[0];
    }
}
