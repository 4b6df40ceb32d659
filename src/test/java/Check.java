import java.nio.charset.StandardCharsets;
import java.util.NoSuchElementException;

/** What the tests share: feeding texts, comparing answers, counting what is wrong. */
final class Check {
    /** A call whose exception is looked at. */
    interface Call {
        Object run();
    }

    private static int wrong = 0;
    private static int looked = 0;

    private Check() {
    }

    static int wrong() {
        return wrong;
    }

    static void due(String what, long got, long want) {
        looked++;
        if (got != want) {
            wrong++;
            System.out.println(what + " answered " + got + ", due is " + want);
        }
    }

    static void yes(String what, boolean got) {
        due(what, got ? 1 : 0, 1);
    }

    static void no(String what, boolean got) {
        due(what, got ? 1 : 0, 0);
    }

    static void missing(String what, Call call) {
        looked++;
        try {
            Object got = call.run();
            wrong++;
            System.out.println(what + " answered " + got + ", due is NoSuchElementException");
        } catch (NoSuchElementException e) {
            // This is what the document asks for.
        }
    }

    /** Puts a text on the tape behind what is there. */
    static void feed(WorldEngine x, String text) {
        byte[] bytes = text.getBytes(StandardCharsets.ISO_8859_1);
        int before = x.look(13);
        for (int i = 0; i < bytes.length; i += 20) {
            yes("feed", x.feed(word(bytes, i), word(bytes, i + 4), word(bytes, i + 8), word(bytes, i + 12),
                word(bytes, i + 16)));
        }
        yes("end", x.end(before + bytes.length));
    }

    private static int word(byte[] bytes, int from) {
        int v = 0;
        for (int i = from; i < from + 4; i++) {
            v = v << 8 | (i < bytes.length ? bytes[i] & 255 : 0);
        }
        return v;
    }

    /** A new object with this text read. */
    static WorldEngine world(String text, int seed, int systems) {
        WorldEngine x = new WorldEngine(1);
        feed(x, text);
        due("text of " + text, x.text(seed), systems);
        return x;
    }

    /** A text with a fault; @ marks its place. */
    static void bad(int kind, String marked) {
        int place = marked.indexOf('@');
        WorldEngine x = new WorldEngine(1);
        feed(x, marked.substring(0, place) + marked.substring(place + 1));
        due(marked, x.text(0), -kind);
        due(marked + " kind", x.fault(1), kind);
        due(marked + " place", x.fault(0), place);
        due(marked + " systems", x.look(0), 0);
    }

    /** A text without a fault. */
    static void good(int systems, String text) {
        WorldEngine x = world(text, 0, systems);
        due(text + " fault", x.fault(0), -1);
        due(text + " kind", x.fault(1), -1);
    }

    /** A step whose inputs of player 0 are known, so that the world stays quiet. */
    static void tick(WorldEngine x) {
        x.input(0, x.look(2) + 1, 0);
        int before = x.look(2);
        due("step", x.step(), before + 1);
    }

    /** Ends the test: with exit code 1 if an answer was wrong. */
    static void close(String name) {
        System.out.println(name + ": " + looked + " answers, " + wrong + " wrong");
        if (wrong != 0) {
            System.exit(1);
        }
    }
}
