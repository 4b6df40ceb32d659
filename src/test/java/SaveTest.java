/** Promises 22 to 27: sum, save, bend, cut, byteOut and load. */
final class SaveTest {
    private static final String TEXT = "component C { int i; byte b; fix f; bool t; ref r; } component M { } component D { ref q; }\n"
        + "event E(byte p, bool v); event N(); prefab P { C(i = 258, b = -2, f = 1.5, t = true); } prefab Q { D; M; }\n"
        + "system S each D { if tick == 1 { emit E(-3, true) to (self) in (4); emit N() to (none) in (16); } "
        + "if tick == 2 { fail; } if tick == 3 { drop (none); } }";
    // Where things stand among the bytes of world() below.
    private static final int COMPONENTS = 2;
    private static final int EVENTS = 12;
    private static final int TICK = 17;
    private static final int PLACES = 33;
    private static final int FIRST = PLACES + 5;
    private static final int SECOND = FIRST + 2 + 20;
    private static final int THIRD = SECOND + 5 + 2 + 4;
    private static final int PENDING = THIRD + 254 * 5;

    public static void main(String[] args) {
        bytes();
        sums();
        outs();
        loads();
        wrongs();
        missing();
        bigWorld();
        Check.close("SaveTest");
    }

    /** Two entities, two pending events, in tick 1. */
    private static WorldEngine world() {
        WorldEngine x = Check.world(TEXT, -2, 1);
        x.make(0);
        x.make(1);
        Check.tick(x);
        return x;
    }

    private static void row(WorldEngine x, int from, int... want) {
        for (int i = 0; i < want.length; i++) {
            Check.due("byte " + (from + i), x.byteOut(from + i), want[i]);
        }
    }

    private static void bytes() {
        WorldEngine x = world();
        Check.due("save", x.save(), PENDING + 2 + 9 + 8 + 9);
        Check.due("out", x.look(9), PENDING + 28);
        row(x, 0, 87, 69);
        row(x, COMPONENTS, 3, 5, 0, 1, 2, 3, 4, 0, 1, 4);
        row(x, EVENTS, 2, 2, 1, 3, 0);
        row(x, TICK, 0, 0, 0, 1, 255, 255, 255, 254, 0, 0, 0, 0, 0, 0, 0, 0);
        row(x, PLACES, 0, 0, 0, 0, 1, 0, 1, 0, 0, 1, 2, 255, 255, 255, 254, 0, 1, 128, 0, 0, 0, 0, 1, 255, 255, 255, 255);
        row(x, SECOND, 0, 0, 0, 0, 1, 0, 6, 255, 255, 255, 255);
        row(x, THIRD, 0, 0, 0, 0, 0, 0, 0, 0, 0, 0);
        row(x, PENDING, 0, 2, 0, 0, 0, 0, 5, 0, 0, 0, 1, 255, 255, 255, 253, 0, 0, 0, 1, 1, 0, 0, 0, 17, 255, 255, 255, 255);
        Check.due("beyond", x.byteOut(PENDING + 28), -1);
        Check.due("below", x.byteOut(-1), -1);
        Check.tick(x);
        Check.tick(x);
        x.change(0, 0, 0);
        x.make(1);
        Check.due("save", x.save(), PENDING + 28 - 20 + 4);
        row(x, TICK, 0, 0, 0, 3, 255, 255, 255, 254, 0, 0, 0, 1, 0, 0, 0, 1, 0, 0, 0, 1, 1, 0, 6);
    }

    /** The sum of some bytes of the OUT behind those that are summed already. */
    private static int summed(int before, WorldEngine x, int from, int to) {
        int h = before;
        for (int k = from; k < to; k++) {
            h = 31 * h + x.byteOut(k);
        }
        return h;
    }

    private static void sums() {
        WorldEngine x = world();
        int size = x.save();
        int h = 0;
        for (int from = 0; from < size; from += 400) {
            // An object has 512 calls, so that each part is read from a new one.
            WorldEngine y = world();
            y.save();
            h = summed(h, y, from, Math.min(size, from + 400));
        }
        Check.due("sum", x.sum(), h);
        Check.due("sum changes nothing", x.sum(), h);
        Check.due("the out stays", x.look(9), size);
        x.step();
        int other = x.sum();
        Check.yes("another world has another sum", other != h);
        Check.due("the out stays", x.look(9), size);
        Check.due("save", x.save(), -10);
        x.input(0, 2, 0);
        Check.due("sum while not quiet", x.sum(), other);
        Check.due("save", x.save(), size);
    }

    private static void outs() {
        WorldEngine x = world();
        Check.no("no such byte", x.bend(0, 1));
        Check.yes("cut of nothing", x.cut(0));
        Check.no("cut beyond", x.cut(1));
        x.save();
        int size = x.look(9);
        Check.yes("bend", x.bend(0, 0x1ff));
        Check.due("bent", x.byteOut(0), 87 ^ 255);
        Check.yes("bend", x.bend(0, -1));
        Check.due("bent back", x.byteOut(0), 87);
        Check.yes("bend by nothing", x.bend(size - 1, 256));
        Check.due("as it was", x.byteOut(size - 1), 255);
        Check.no("no such byte", x.bend(size, 1));
        Check.no("no such byte", x.bend(-1, 1));
        Check.no("cut beyond", x.cut(size + 1));
        Check.no("cut below", x.cut(-1));
        Check.yes("cut as it is", x.cut(size));
        Check.yes("cut", x.cut(10));
        Check.due("out", x.look(9), 10);
        Check.due("cut off", x.byteOut(10), -1);
        Check.no("cut off", x.bend(10, 1));
        Check.no("cut off", x.cut(11));
        Check.due("save", x.save(), size);
        Check.feed(x, TEXT);
        x.text(0);
        Check.due("text leaves the out", x.look(9), size);
    }

    private static void loads() {
        WorldEngine x = world();
        x.save();
        int sum = x.sum();
        x.input(0, 3, 5);
        Check.tick(x);
        Check.due("failure", x.failure(2), 4);
        x.make(0);
        Check.due("load", x.load(), 0);
        Check.due("sum", x.sum(), sum);
        Check.due("now", x.look(2), 1);
        Check.due("confirmed", x.look(3), 1);
        Check.due("no failure", x.failure(2), -1);
        Check.due("entities", x.look(4), 2);
        Check.due("pending", x.pending(0, 3), -3);
        Check.due("no input has come", x.input(0, 3, 6), 0);
        Check.due("no input has come", x.input(0, 2, 6), 0);
        Check.due("confirmed", x.input(0, 1, 6), -2);
        Check.due("step", x.step(), 2);
        Check.due("make", x.make(0), 2);
        x.step();
        x.step();
        Check.due("not quiet", x.load(), -1000000);
        WorldEngine none = new WorldEngine(1);
        none.save();
        Check.due("without a text", none.load(), -2000000);
        Check.feed(none, "");
        Check.due("text", none.text(0), 0);
        Check.due("an empty world", none.load(), 0);
        lastGuessIsForgotten();
        loadedWhole();
    }

    /** A BYTE of -2 among the bytes becomes another value. */
    private static void byteEdge(int value, int want) {
        WorldEngine x = world();
        x.save();
        for (int i = 0; i < 4; i++) {
            x.bend(FIRST + 6 + i, x.byteOut(FIRST + 6 + i) ^ value >>> 24 - 8 * i);
        }
        Check.due("a byte of " + value, x.load(), want);
    }

    /** Nothing of the world that was, or of those before it, is left in a loaded one. */
    private static void loadedWhole() {
        WorldEngine x = Check.world(TEXT, 3, 1);
        x.save();
        x.bend(TICK + 7, 3 ^ 9);
        for (int i = 0; i < 20; i++) {
            x.make(i & 1);
            Check.tick(x);
        }
        Check.due("load", x.load(), 0);
        Check.due("entities", x.look(4), 0);
        Check.due("pending", x.look(5), 0);
        Check.due("fails", x.look(6), 0);
        Check.due("passed", x.look(7), 0);
        x.save();
        Check.due("the seed", x.byteOut(TICK + 7), 9);
        Check.due("generations", x.make(0), 0);
    }

    private static void lastGuessIsForgotten() {
        WorldEngine x = Check.world("component C { } prefab P { C; } system S each C { show (input(0)); }", 0, 1);
        x.make(0);
        x.input(0, 1, 9);
        x.step();
        x.save();
        x.load();
        x.step();
        x.input(0, 2, 0);
        Check.due("nothing had come, so 0 was guessed", x.look(12), 0);
        Check.due("told stays", x.look(8), 2);
        Check.due("told", x.shown(1), 9);
    }

    /** Bends a byte, loads, and bends it back. */
    private static void wrong(WorldEngine x, int at, int mask, int want) {
        x.bend(at, mask);
        Check.due("load with byte " + at + " bent by " + mask, x.load(), want);
        x.bend(at, mask);
    }

    private static void wrongs() {
        WorldEngine x = world();
        x.save();
        int sum = x.sum();
        for (int at = 0; at < TICK; at++) {
            wrong(x, at, 1, -1 - at);
            wrong(x, at, 128, -1 - at);
        }
        wrong(x, TICK, 128, -1 - TICK);
        wrong(x, TICK, 0x3b, -1 - (PENDING + 3));
        wrong(x, TICK, 0x3c, -1 - TICK);
        wrong(x, TICK + 4, 255, 0);
        wrong(x, TICK + 8, 128, -1 - (TICK + 8));
        wrong(x, TICK + 8, 0x40, -1 - (TICK + 8));
        wrong(x, TICK + 12, 128, -1 - (TICK + 12));
        wrong(x, PLACES, 1, -1 - PLACES);
        wrong(x, PLACES + 4, 2, -1 - (PLACES + 4));
        wrong(x, PLACES + 4, 255, -1 - (PLACES + 4));
        wrong(x, FIRST, 1, -1 - FIRST);
        wrong(x, FIRST + 1, 8, -1 - FIRST);
        wrong(x, FIRST + 1, 9, -1 - FIRST);
        wrong(x, FIRST + 1, 128, -1 - FIRST);
        wrong(x, FIRST + 2, 255, 0);
        wrong(x, FIRST + 6, 1, -1 - (FIRST + 6));
        wrong(x, FIRST + 9, 128, -1 - (FIRST + 6));
        wrong(x, FIRST + 9, 127, 0);
        wrong(x, FIRST + 9, 0xfe ^ 0x80, 0);
        byteEdge(127, 0);
        byteEdge(128, -1 - (FIRST + 6));
        wrong(x, FIRST + 9, 0xfe ^ 0x7f, -1 - (FIRST + 6));
        wrong(x, FIRST + 10, 128, 0);
        wrong(x, FIRST + 17, 1, 0);
        wrong(x, FIRST + 17, 2, -1 - (FIRST + 14));
        wrong(x, FIRST + 21, 1, -1 - (FIRST + 18));
        wrong(x, FIRST + 18, 128, 0);
        wrong(x, PENDING, 1, -1 - PENDING);
        wrong(x, PENDING + 1, 3, -1 - (PENDING + 19));
        wrong(x, PENDING + 2, 2, -1 - (PENDING + 2));
        wrong(x, PENDING + 6, 5, -1 - (PENDING + 3));
        wrong(x, PENDING + 6, 4, -1 - (PENDING + 3));
        wrong(x, PENDING + 6, 7, 0);
        wrong(x, PENDING + 6, 17 ^ 5, 0);
        wrong(x, PENDING + 6, 18 ^ 5, -1 - (PENDING + 3));
        wrong(x, PENDING + 7, 128, -1 - (PENDING + 7));
        wrong(x, PENDING + 14, 128, -1 - (PENDING + 11));
        wrong(x, PENDING + 18, 3, -1 - (PENDING + 15));
        wrong(x, PENDING + 27, 1, -1 - (PENDING + 24));
        Check.due("as saved", x.load(), 0);
        Check.due("sum", x.sum(), sum);
        x.bend(2, 1);
        x.make(0);
        int other = x.sum();
        Check.due("wrong", x.load(), -3);
        Check.due("a wrong one changes nothing", x.sum(), other);
        nothingBehind();
        generations();
    }

    private static void nothingBehind() {
        WorldEngine x = Check.world(TEXT, 0, 1);
        x.make(1);
        x.save();
        // The last place gets an entity without components, so that bytes are left.
        int at = x.look(9) - 3;
        x.bend(at, 1);
        Check.due("its components are read from the count", x.load(), -1 - (at + 3));
        x.bend(at, 1);
        x.bend(PLACES + 4, 1);
        Check.due("left: the first place's components", x.load(), -1 - (PLACES + 5 + 4));
        leftOver();
    }

    private static void leftOver() {
        // An entity without components at place 0 has two bytes, 0 0, which are too many when it is gone.
        WorldEngine x = Check.world("component C { } prefab Z { } system S each C { }", 0, 1);
        x.make(0);
        int size = x.save();
        x.bend(2 + 2 + 1 + 16 + 4, 1);
        Check.due("nothing may be behind it", x.load(), -1 - (size - 2));
    }

    private static void generations() {
        WorldEngine x = Check.world(TEXT, 0, 1);
        x.make(1);
        x.save();
        // 8000000 is 0x7a1200.
        x.bend(PLACES + 1, 0x7a);
        x.bend(PLACES + 2, 0x12);
        Check.due("the greatest generation", x.load(), 0);
        Check.due("its number", x.entity(0), 8000000 * 256);
        x.change(0, 8000000 * 256, 0);
        Check.due("a greater one", x.make(1), 8000001 * 256);
        Check.yes("can be saved", x.save() > 0);
        Check.due("and not loaded", x.load(), -1 - PLACES);
        ticks();
    }

    private static void ticks() {
        WorldEngine x = Check.world("component C { } system S each C { }", 0, 1);
        x.save();
        int tick = 2 + 2 + 1;
        int[] billion = {0x3b, 0x9a, 0xca, 0x00};
        for (int i = 0; i < 4; i++) {
            x.bend(tick + i, billion[i]);
            x.bend(tick + 8 + i, billion[i]);
            x.bend(tick + 12 + i, billion[i]);
        }
        Check.due("the greatest counts", x.load(), 0);
        Check.due("now", x.look(2), 1000000000);
        Check.due("confirmed", x.look(3), 1000000000);
        Check.due("fails", x.look(6), 1000000000);
        Check.due("passed", x.look(7), 1000000000);
        Check.due("the last tick", x.step(), -4);
        x.bend(tick + 3, 1);
        Check.due("one more", x.load(), -1 - tick);
        x.bend(tick + 3, 1);
        x.bend(tick + 11, 1);
        Check.due("one more", x.load(), -1 - (tick + 8));
        x.bend(tick + 11, 1);
        x.bend(tick + 15, 1);
        Check.due("one more", x.load(), -1 - (tick + 12));
        x.bend(tick + 15, 1);
        x.bend(tick + 2, 0xca ^ 0xc9);
        x.bend(tick + 3, 0xff);
        Check.due("one before the last", x.load(), 0);
        x.input(0, 1000000000, 3);
        Check.due("step", x.step(), 1000000000);
        Check.due("input beyond the last tick", x.input(0, 1000000016, 3), 0);
        Check.due("step", x.step(), -4);
    }

    private static void missing() {
        WorldEngine x = world();
        int size = x.save();
        for (int n : new int[] {size - 1, size - 4, size - 8, PENDING + 3, PENDING + 1, PENDING, THIRD + 2, SECOND + 5,
            FIRST + 1, FIRST, PLACES, TICK + 2, EVENTS, COMPONENTS, 1, 0}) {
            Check.yes("cut", x.cut(n));
            Check.due("load of " + n, x.load(), -1 - n);
        }
        x.save();
        x.bend(1, 1);
        x.cut(2);
        Check.due("wrong ahead of what is missing", x.load(), -2);
    }

    /** The largest world there can be, saved and loaded. */
    private static void bigWorld() {
        StringBuilder b = new StringBuilder();
        for (int c = 0; c < 6; c++) {
            b.append("component C").append(c).append(" { ");
            for (int m = 0; m < 8; m++) {
                b.append("int m").append(m).append("; ");
            }
            b.append("} ");
        }
        b.append("event E(int a, int b, int c, int d); prefab P { C0; C1; C2; C3; C4; C5; } ");
        b.append("system S each C0 { emit E(1, 2, 3, 4) to (self) in (1); }");
        WorldEngine x = Check.world(b.toString(), 0, 1);
        for (int i = 0; i < 256; i++) {
            x.make(0);
        }
        Check.tick(x);
        int size = 2 + 1 + 6 * 9 + 1 + 5 + 16 + 256 * (7 + 192) + 2 + 256 * 25;
        Check.due("save", x.save(), size);
        int sum = x.sum();
        x.set(0, 0, 0, 9);
        Check.due("load", x.load(), 0);
        Check.due("sum", x.sum(), sum);
    }
}
