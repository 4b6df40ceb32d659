/** Promises 10 to 15: making, changing and asking entities. */
final class EditTest {
    private static final String TEXT = "component C { int i; byte b; fix f; bool t; ref r; } component D { int j; ref q; } component M { }\n"
        + "prefab P { C(i = -5, b = 200, f = -0.5, t = true, r = none); } prefab Q { D(j = 4); M; } prefab Z { }\n"
        + "system S each C { }";

    public static void main(String[] args) {
        makes();
        changes();
        sets();
        quiet();
        newWorld();
        newCounts();
        Check.close("EditTest");
    }

    private static void makes() {
        WorldEngine x = Check.world(TEXT, 0, 1);
        Check.due("no such prefab", x.make(3), -1);
        Check.due("no such prefab", x.make(-1), -1);
        Check.due("make", x.make(0), 0);
        int[] want = {-5, 127, -32768, 1, -1};
        for (int m = 0; m < 5; m++) {
            Check.due("member " + m, x.get(0, 0, m), want[m]);
        }
        Check.due("make", x.make(1), 1);
        Check.due("member", x.get(1, 1, 0), 4);
        Check.due("member", x.get(1, 1, 1), -1);
        Check.due("without components", x.make(2), 2);
        for (int c = -1; c <= 3; c++) {
            Check.due("has " + c, x.has(0, c) ? 1 : 0, c == 0 ? 1 : 0);
            Check.due("has " + c, x.has(1, c) ? 1 : 0, c == 1 || c == 2 ? 1 : 0);
            Check.no("has " + c, x.has(2, c));
            Check.no("has " + c, x.has(3, c));
        }
        for (int i = 3; i < 256; i++) {
            Check.due("make", x.make(2), i);
        }
        Check.due("no place", x.make(0), -2);
        Check.due("no such prefab is told first", x.make(9), -1);
        Check.due("drop", x.change(0, 200, 99), 0);
        Check.due("drop", x.change(0, 100, -1), 0);
        Check.due("the least place", x.make(0), 356);
        Check.due("entities by places", x.entity(100), 356);
        Check.due("entities", x.look(4), 255);
        Check.due("the last", x.entity(254), 255);
        Check.due("behind the gap", x.entity(200), 201);
        Check.due("none", x.entity(255), -1);
        Check.due("none", x.entity(-1), -1);
        Check.due("none", x.entity(2147483647), -1);
    }

    private static void changes() {
        WorldEngine x = Check.world(TEXT, 0, 1);
        x.make(0);
        x.make(1);
        Check.due("no such how", x.change(3, 0, 0), -1);
        Check.due("no such how", x.change(-1, 0, 0), -1);
        for (int how = 0; how < 3; how++) {
            Check.due("no such entity", x.change(how, 2, 0), -1);
            Check.due("no such entity", x.change(how, -1, 0), -1);
            Check.due("no such entity", x.change(how, 256, 0), -1);
            Check.due("no such entity", x.change(how, -256, 0), -1);
        }
        Check.due("no such component", x.change(1, 0, 3), -1);
        Check.due("no such component", x.change(2, 0, -1), -1);
        Check.due("it has it", x.change(1, 0, 0), -2);
        Check.due("it has it not", x.change(2, 0, 1), -2);
        Check.due("give", x.change(1, 0, 1), 0);
        Check.due("as at first", x.get(0, 1, 0), 0);
        Check.due("as at first", x.get(0, 1, 1), -1);
        x.set(0, 1, 0, 77);
        Check.due("take", x.change(2, 0, 1), 0);
        Check.no("has", x.has(0, 1));
        Check.missing("taken", () -> x.get(0, 1, 0));
        Check.due("give", x.change(1, 0, 1), 0);
        Check.due("as at first again", x.get(0, 1, 0), 0);
        Check.due("drop", x.change(0, 0, 0), 0);
        Check.no("gone", x.has(0, 0));
        Check.due("gone", x.change(0, 0, 0), -1);
        Check.due("entities", x.look(4), 1);
        Check.due("first", x.entity(0), 1);
        Check.due("a new number", x.make(0), 256);
        Check.missing("the old number", () -> x.get(0, 0, 0));
    }

    private static void sets() {
        WorldEngine x = Check.world(TEXT, 0, 1);
        x.make(0);
        int[][] want = {{0, 2147483647, 2147483647}, {0, -2147483648, -2147483648}, {1, 127, 127}, {1, 128, 127},
            {1, 2147483647, 127}, {1, -128, -128}, {1, -129, -128}, {1, -2147483648, -128}, {2, -2147483648, -2147483648},
            {2, 5, 5}, {3, 1, 1}, {3, 2, 0}, {3, 3, 1}, {3, -1, 1}, {3, -2, 0}, {4, 5, 5}, {4, -1, -1}, {4, -7, -1},
            {4, -2147483648, -1}, {4, 2147483647, 2147483647}};
        for (int[] one : want) {
            Check.due("set", x.set(0, 0, one[0], one[1]), 0);
            Check.due("member " + one[0] + " given " + one[1], x.get(0, 0, one[0]), one[2]);
        }
        int[][] none = {{1, 0, 0}, {-1, 0, 0}, {256, 0, 0}, {0, 1, 0}, {0, 2, 0}, {0, 3, 0}, {0, -1, 0}, {0, 32, 0}, {0, 0, 5},
            {0, 0, -1}, {0, 0, 2147483647}, {0, 2147483647, 0}, {0, -2147483648, 0}, {0, 0, -2147483648}};
        for (int[] one : none) {
            Check.due("none such", x.set(one[0], one[1], one[2], 1), -1);
            Check.missing("none such", () -> x.get(one[0], one[1], one[2]));
        }
        Check.no("none such", x.has(0, 32));
        Check.no("none such", x.has(0, -32));
    }

    private static void quiet() {
        WorldEngine x = Check.world(TEXT, 0, 1);
        x.make(0);
        x.step();
        Check.due("make", x.make(99), -10);
        Check.due("change", x.change(99, 99, 99), -10);
        Check.due("set", x.set(99, 99, 99, 99), -10);
        Check.due("save", x.save(), -10);
        Check.due("load", x.load(), -1000000);
        Check.due("swap", x.swap(), -10);
        Check.due("get", x.get(0, 0, 0), -5);
        Check.due("input", x.input(0, 1, 0), 0);
        Check.due("make", x.make(0), 1);
        Check.due("set", x.set(0, 0, 0, 8), 0);
        x.step();
        Check.due("run again with what was made", x.input(0, 2, 1), 1);
        Check.due("entities", x.look(4), 2);
        Check.due("member", x.get(0, 0, 0), 8);
    }

    /** A text's world has nothing of the one before. */
    private static void newWorld() {
        WorldEngine x = Check.world("component C { ref r; byte b; } prefab P { C(b = -200); }", 0, 0);
        Check.due("make", x.make(0), 0);
        Check.due("a ref is none at first", x.get(0, 0, 0), -1);
        Check.due("a byte is held", x.get(0, 0, 1), -128);
        x.set(0, 0, 0, 9);
        x.change(0, 0, 0);
        Check.feed(x, "component D { ref q; } prefab P { D; }");
        Check.due("text", x.text(0), 0);
        Check.due("none is there", x.look(4), 0);
        Check.due("generations are new", x.make(0), 0);
        Check.due("a ref is none at first", x.get(0, 0, 0), -1);
    }

    private static void newCounts() {
        String text = "component C { int i; } event E(); prefab P { C; } system S each C { show (1); drop (none); "
            + "emit E() to (self) in (5); } system T each C { fail; }";
        WorldEngine x = new WorldEngine(1);
        for (int turn = 0; turn < 5; turn++) {
            Check.feed(x, text);
            Check.due("text", x.text(0), 2);
            for (int what = 2; what <= 8; what++) {
                Check.due("look " + what, x.look(what), 0);
            }
            Check.missing("nothing told", () -> x.shown(0));
            Check.due("no failure", x.failure(2), -1);
            Check.due("one prefab", x.make(1), -1);
            Check.due("components", x.look(1), 1);
            Check.due("groups", x.look(10), 1);
            Check.due("group", x.group(1), 0);
            Check.due("make", x.make(0), 0);
            Check.tick(x);
            int[] want = {1, 1, 1, 1, 1, 1, 1};
            for (int what = 2; what <= 8; what++) {
                Check.due("look " + what, x.look(what), want[what - 2]);
            }
        }
    }
}
