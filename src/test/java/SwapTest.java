/** Promise 6: a world carried into another text. */
final class SwapTest {
    private static final int LEAST = -2147483648;
    private static final int MOST = 2147483647;

    public static void main(String[] args) {
        kinds();
        names();
        wider();
        events();
        rest();
        fromNothing();
        faults();
        Check.close("SwapTest");
    }

    private static void swap(WorldEngine x, String text, int want) {
        Check.feed(x, text);
        Check.due("swap to " + text, x.swap(), want);
    }

    /** A member of one kind with a value, carried to each other kind. */
    private static void kinds() {
        String[] kinds = {"int", "byte", "fix", "bool", "ref"};
        int[][] cases = {
            {0, 5, 5, 5, 327680, 1, -1}, {0, -300, -300, -128, -19660800, 1, -1}, {0, 300, 300, 127, 19660800, 1, -1},
            {0, 32767, 32767, 127, 32767 * 65536, 1, -1}, {0, 32768, 32768, 127, MOST, 1, -1}, {0, MOST, MOST, 127, MOST, 1, -1},
            {0, -32768, -32768, -128, LEAST, 1, -1}, {0, LEAST, LEAST, -128, LEAST, 1, -1}, {0, 0, 0, 0, 0, 0, -1},
            {1, -7, -7, -7, -458752, 1, -1}, {1, 0, 0, 0, 0, 0, -1},
            {2, 98304, 1, 1, 98304, 1, -1}, {2, -1, -1, -1, -1, 1, -1}, {2, 65535, 0, 0, 65535, 1, -1}, {2, 0, 0, 0, 0, 0, -1},
            {2, MOST, 32767, 127, MOST, 1, -1}, {2, LEAST, -32768, -128, LEAST, 1, -1},
            {3, 1, 1, 1, 65536, 1, -1}, {3, 0, 0, 0, 0, 0, -1},
            {4, 3, 0, 0, 0, 0, 3}, {4, -1, 0, 0, 0, 0, -1}};
        for (int[] one : cases) {
            for (int to = 0; to < 5; to++) {
                WorldEngine x = Check.world("component C { " + kinds[one[0]] + " m; } prefab P { C; }", 0, 0);
                x.make(0);
                Check.due("set", x.set(0, 0, 0, one[1]), 0);
                swap(x, "component C { " + kinds[to] + " m; }", 0);
                Check.due(one[1] + " of " + kinds[one[0]] + " to " + kinds[to], x.get(0, 0, 0), one[2 + to]);
            }
        }
    }

    private static void names() {
        WorldEngine x = Check.world("component A { int a; int b; } component B { int c; } component D { int d; } "
            + "prefab P { A(a = 1, b = 2); B(c = 3); } prefab Q { D(d = 4); } prefab Z { }", 9, 0);
        x.make(0);
        x.make(1);
        x.make(2);
        x.make(0);
        x.change(0, 3, 0);
        swap(x, "component N { ref z; } component B { fix x; ref y; int c; } component A { int b; bool a; } component c { } "
            + "system S each A, B { }", 1);
        Check.due("entities stay", x.look(4), 3);
        Check.due("row", x.row(0, 0), 0);
        Check.no("N", x.has(0, 0));
        Check.yes("B", x.has(0, 1));
        Check.yes("A", x.has(0, 2));
        Check.no("c", x.has(0, 3));
        Check.due("a new one", x.get(0, 1, 0), 0);
        Check.due("a new ref", x.get(0, 1, 1), -1);
        Check.due("c", x.get(0, 1, 2), 3);
        Check.due("b", x.get(0, 2, 0), 2);
        Check.due("a", x.get(0, 2, 1), 1);
        for (int c = 0; c < 4; c++) {
            Check.no("D is gone", x.has(1, c));
        }
        Check.due("prefabs are the new text's", x.make(0), -1);
        swap(x, "component D { int d; } prefab P { D; }", 0);
        Check.no("what was gone does not come back", x.has(1, 0));
        Check.due("generations stay", x.make(0), 256 + 3);
    }

    /** More and fewer members for several entities. */
    private static void wider() {
        WorldEngine x = Check.world("component A { int a; } prefab P { A; }", 0, 0);
        for (int e = 0; e < 4; e++) {
            x.make(0);
            x.set(e, 0, 0, 10 + e);
        }
        swap(x, "component B { int b; } component A { int p; int a; int q; ref r; } prefab P { A(p = 1, a = 2, q = 3); }", 0);
        Check.due("make", x.make(0), 4);
        for (int e = 0; e < 5; e++) {
            int[] want = e < 4 ? new int[] {0, 10 + e, 0, -1} : new int[] {1, 2, 3, -1};
            for (int m = 0; m < 4; m++) {
                Check.due("wider " + e + " " + m, x.get(e, 1, m), want[m]);
            }
            x.set(e, 1, 0, 20 + e);
            x.set(e, 1, 3, 30 + e);
        }
        x.save();
        Check.due("load", x.load(), 0);
        swap(x, "component A { ref r; int p; }", 0);
        for (int e = 0; e < 5; e++) {
            Check.due("narrower", x.get(e, 0, 0), 30 + e);
            Check.due("narrower", x.get(e, 0, 1), 20 + e);
        }
    }

    private static void events() {
        WorldEngine x = Check.world("component C { int n; } prefab P { C; } event E(int a, ref b); event F(int a); event G(); "
            + "system S each C { if tick == 1 { emit E(1, self) to (self) in (2); emit F(2) to (self) in (3); emit G() to (none) in (4); "
            + "emit E(5, none) to (self) in (5); } }", 0, 1);
        x.make(0);
        Check.tick(x);
        Check.due("pending", x.look(5), 4);
        swap(x, "component C { int n; } event G(); event F(fix a); event E(int p, ref q); system T each C { hear E { show (E.p); } }", 1);
        Check.due("another kind is gone", x.look(5), 3);
        int[][] want = {{2, 3, 0, 1, 0, -1}, {0, 5, -1, -1, -1, -1}, {2, 6, 0, 5, -1, -1}};
        for (int k = 0; k < 3; k++) {
            for (int what = 0; what < 6; what++) {
                Check.due("pending " + k + " " + what, x.pending(k, what), want[k][what]);
            }
        }
        Check.tick(x);
        Check.tick(x);
        Check.due("heard", x.shown(0), 1);
        swap(x, "component C { int n; } event E(int p); event G(int g);", 0);
        Check.due("fewer or more members are gone", x.look(5), 0);
    }

    private static void rest() {
        WorldEngine x = Check.world("component C { int n; } prefab P { C; } system S each C { show (tick); drop (none); if tick == 2 { fail; } }", 77, 1);
        x.make(0);
        x.seat(1, true);
        x.input(0, 1, 0);
        x.input(1, 1, 0);
        x.step();
        x.input(0, 2, 4);
        x.step();
        Check.due("run again", x.input(1, 2, 9), 1);
        x.input(0, 4, 6);
        x.save();
        Check.due("failure", x.failure(0), 0);
        int out = x.look(9);
        swap(x, "component C { int n; } prefab P { C; } system S each C { show (draw(1000)); show (input(0) + 10 * input(1)); } system T each C { }", 2);
        int[] looks = {2, 1, 2, 2, 1, 0, 1, 1, 1, out, 1, 1, 1, 0, 3};
        for (int what = 0; what < looks.length; what++) {
            Check.due("look " + what, x.look(what), looks[what]);
        }
        Check.due("no failure", x.failure(0), -1);
        Check.due("inputs stay", x.input(0, 4, 6), -4);
        x.step();
        x.input(0, 3, 4);
        x.input(1, 3, 9);
        Check.due("guessed as before", x.look(12), 1);
        Check.due("told", x.shown(0), 94);
        int seeded = 77;
        for (int with : new int[] {3, 0, 0, 0}) {
            seeded = (seeded ^ with) * -1640531535;
            seeded ^= seeded >>> 15;
        }
        Check.due("the seed stays", x.shown(1), (seeded & MOST) % 1000);
    }

    private static void fromNothing() {
        WorldEngine x = new WorldEngine(1);
        swap(x, "component C { int n; } prefab P { C; } system S each C { }", 1);
        Check.due("make", x.make(0), 0);
        Check.due("step", x.step(), 1);
        Check.due("not quiet", x.swap(), -10);
    }

    private static void faults() {
        WorldEngine x = Check.world("component C { int n; } prefab P { C; }", 0, 0);
        x.make(0);
        swap(x, "component C { int n; int n; }", -3);
        Check.due("place", x.fault(0), 25);
        Check.due("kind", x.fault(1), 3);
        Check.due("as before", x.get(0, 0, 0), 0);
        Check.due("as before", x.make(0), 1);
        swap(x, "", 0);
        Check.due("no fault", x.fault(0), -1);
        Check.due("entities stay", x.look(4), 2);
        Check.due("no components", x.look(1), 0);
    }
}
