import java.io.IOException;
import java.nio.file.Files;
import java.nio.file.Path;
import java.util.ArrayList;
import java.util.List;

/** README.md: its example answers what it says, and it names every call of the document's face. */
final class ReadmeTest {
    public static void main(String[] args) throws IOException {
        example();
        List<String> readme = Files.readAllLines(Path.of("README.md"));
        List<String> here = Files.readAllLines(Path.of("src/test/java/ReadmeTest.java"));
        sameExample(readme, here);
        namesEveryCall(String.join("\n", readme));
        Check.close("ReadmeTest");
    }

    private static void due(long got, long want) {
        Check.due("README's example", got, want);
    }

    // README.md has these lines and those of feed, word for word: change both.
    private static void example() {
        String text = "component Pos { fix x; fix y; } component Life { int left; } event Hit(int by);"
            + " prefab Ball { Pos(x = 1.5); Life(left = 3); }"
            + " system Move each Pos writes Pos { Pos.x = Pos.x + fix(input(0)); }"
            + " system Age each Life writes Life { hear Hit { Life.left = Life.left - Hit.by; }"
            + " if Life.left < 1 { show (tick); drop (self); } }"
            + " system Sting each Life { emit Hit(1) to (self) in (1); }";

        WorldEngine x = new WorldEngine(2);     // workers 0 and 1 are UP
        feed(x, text);                          // twenty bytes a call, then end(n)
        due(x.text(7), 3);                      // three systems; a fault answers minus its kind
        int ball = x.make(0);                   // an entity of the first prefab
        due(x.step(), 1);                       // tick 1: player 0 is guessed to do nothing
        due(x.get(ball, 0, 0), 98304);          // Pos.x is 1.5, in 65536ths
        due(x.input(0, 1, 2), 1);               // its input comes late: one tick is run again
        due(x.get(ball, 0, 0), 229376);         // 3.5
        due(x.look(3), 1);                      // tick 1 is CONFIRMED, so the world is QUIET
        due(x.pending(0, 1), 2);                // the event that the ball hears in tick 2
        x.save();                               // the world as bytes: the OUT
        for (int tick = 2; tick <= 4; tick++) {
            x.input(0, tick, 0);
            x.step();
        }
        due(x.shown(0), 4);                     // the ball was gone in tick 4
        due(x.entity(0), WorldEngine.NONE);
        due(x.load(), 0);                       // back at tick 1
        due(x.entity(0), ball);
    }

    static void feed(WorldEngine x, String text) {
        byte[] b = java.util.Arrays.copyOf(text.getBytes(), (text.length() + 19) / 20 * 20);
        java.nio.IntBuffer ints = java.nio.ByteBuffer.wrap(b).asIntBuffer();
        while (ints.hasRemaining()) {
            x.feed(ints.get(), ints.get(), ints.get(), ints.get(), ints.get());
        }
        x.end(text.length());
    }

    private static void sameExample(List<String> readme, List<String> here) {
        List<String> told = block(readme);
        Check.yes("README.md has an example", told.size() > 10);
        int at = 0;
        for (String line : told) {
            while (at < here.size() && !here.get(at).trim().equals(line.trim())) {
                at++;
            }
            Check.yes("README's line stands in its test, in order: " + line, at < here.size());
            at++;
        }
    }

    /** The lines of the first block of Java. */
    private static List<String> block(List<String> lines) {
        List<String> found = new ArrayList<>();
        int at = lines.indexOf("```java") + 1;
        while (at > 0 && at < lines.size() && !lines.get(at).equals("```")) {
            found.add(lines.get(at));
            at++;
        }
        return found;
    }

    private static void namesEveryCall(String readme) {
        String calls = "feed end text fault swap step input seat make change set get has entity row group shown failure "
            + "pending look sum save bend cut byteOut load fall stand pace";
        for (String call : calls.split(" ")) {
            Check.yes("README.md tells of " + call, readme.contains("`" + call + "("));
        }
    }
}
