import java.io.IOException;
import java.nio.file.Files;
import java.nio.file.Path;

/** The example of README.md stands below word for word, and answers what it says; run it from the project's folder. */
public final class ReadmeTest extends Checks {
    private static final Path README = Path.of("README.md");
    private static final Path HERE = Path.of("src/test/java/ReadmeTest.java");

    private static void example() {
        // the example begins
        TileRunners world = new TileRunners();
        for (char sign : "########################".toCharArray()) {
            world.append(sign);
        }
        world.readTiles(0, 0);                      // 24 tiles of solid ground in row 0
        int runner = world.addBody(40, 16, 8, 12);  // 0, the first body: 8 wide, 12 high, on the ground
        int highest = world.apex(runner, 6, 40);    // 61, if it were to press right and jump from now on
        world.press(runner, 2 + 4);                 // right and jump: keys are added up
        world.tick(10);
        int height = world.body(runner, 1);         // 61, its y
        world.undo();                               // 9, the clock one tick back
        for (char sign : "n20l15".toCharArray()) {
            world.append(sign);
        }
        world.play(runner);                         // 35 ticks: 20 without a key, 15 to the left
        boolean stands = world.stands(runner);      // true: it is down on the ground again
        // the example ends
        eq("the number of the body", runner, 0);
        eq("the highest y", highest, 61);
        eq("its y", height, 61);
        eq("the clock", world.clock(), 9 + 35);
        yes("it stands", stands);
    }

    private static String linesOfExample(String source) {
        String begin = "        // the example begins\n";
        String end = "        // the example ends\n";
        int from = source.indexOf(begin) + begin.length();
        int to = source.indexOf(end, from);
        return source.substring(from, to).replaceAll("(?m)^ {8}", "");
    }

    private static void standsInReadme() {
        try {
            String block = "```java\n" + linesOfExample(Files.readString(HERE)) + "```\n";
            yes("the example of README.md is the one of this test", Files.readString(README).contains(block));
        } catch (IOException e) {
            report("README.md or this test cannot be read");
        }
    }

    public static void main(String[] args) {
        check("the example", () -> example());
        check("README.md", () -> standsInReadme());
        finish("the example of README.md is as due");
    }
}
