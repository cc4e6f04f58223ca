import java.io.IOException;
import java.nio.file.Files;
import java.nio.file.Path;

/** The example of README.md: each of its calls answers what stands behind it there. */
final class ReadmeTest {
    private static final Check CHECK = new Check("ReadmeTest");

    public static void main(String[] args) throws IOException {
        String readme = Files.readString(Path.of("README.md"));
        TallShip ship = new TallShip(12);
        told(readme, "ship.wind(0, 16, 8);", ship.wind(0, 16, 8), true);
        told(readme, "ship.feed(0x73657420303B2000L, 0, 0);", ship.feed(0x73657420303B2000L, 0, 0), 7);
        told(readme, "ship.orders();", ship.orders(), 0);
        told(readme, "ship.minutes(5);", ship.minutes(5), 5);
        told(readme, "ship.sail(0, 0);", ship.sail(0, 0), 1);
        told(readme, "ship.look(5);", ship.look(5), 16);
        told(readme, "ship.foretell(0, 16, 8);", ship.foretell(0, 16, 8), true);
        told(readme, "ship.plan(0, 6);", ship.plan(0, 6), 1);
        told(readme, "ship.leg(0);", ship.leg(0), 0);
        CHECK.end();
    }

    private static void told(String readme, String call, int got, int want) {
        CHECK.due(call, got, want);
        standsThere(readme, call, String.valueOf(want));
    }

    private static void told(String readme, String call, boolean got, boolean want) {
        CHECK.due(call, got, want);
        standsThere(readme, call, String.valueOf(want));
    }

    private static void standsThere(String readme, String call, String answer) {
        boolean there = readme.lines().anyMatch(line -> line.matches("\\Q" + call + "\\E *// " + answer + "\\b.*"));
        CHECK.due(call + " with " + answer + " in README.md", there, true);
    }
}
