/** Commands: what they do, in which order, and what is passed over. */
final class CommandTest {
    private static final String HEAD = "component C { int i; ref r; } component D { int j; ref q; bool t; } component M { }\n"
        + "event E(int p, ref w); prefab P { C(i = 7); } prefab Q { D(j = 3); C; } prefab Mark { M; }\n";

    public static void main(String[] args) {
        spawns();
        spawnsLast();
        drops();
        gives();
        puts();
        emits();
        shows();
        loops();
        near();
        own();
        branches();
        order();
        Check.close("CommandTest");
    }

    private static WorldEngine world(String systems, int count, int... prefabs) {
        WorldEngine x = Check.world(HEAD + systems, 0, count);
        for (int prefab : prefabs) {
            x.make(prefab);
        }
        return x;
    }

    private static void spawns() {
        WorldEngine x = world("system S each M { spawn Q(C.i = 1, D.j = 2, C.i = 5, C.r = self); spawn P; }", 1, 2);
        Check.tick(x);
        Check.due("entities", x.look(4), 3);
        int[] want = {5, 0, 2, -1, 0};
        for (int k = 0; k < 5; k++) {
            Check.due("member " + k, k < 2 ? x.get(1, 0, k) : x.get(1, 1, k - 2), want[k]);
        }
        Check.due("plain", x.get(2, 0, 0), 7);
        Check.due("plain", x.get(2, 0, 1), -1);
        Check.no("has", x.has(2, 1));
        x = world("system S each M { spawn P; spawn P; spawn P; spawn P; spawn P; spawn P; spawn P; spawn P; }", 1, 2);
        for (int i = 0; i < 33; i++) {
            Check.tick(x);
        }
        Check.due("full", x.look(4), 256);
        Check.due("passed", x.look(7), 33 * 8 - 255);
        Check.due("the last one", x.entity(255), 255);
    }

    private static void spawnsLast() {
        WorldEngine x = world("system S each M { spawn P; } system T each C { show (5); }", 2, 2);
        Check.tick(x);
        Check.due("the row ends behind its last statement", x.look(8), 0);
        Check.tick(x);
        Check.due("the new one's row", x.look(8), 1);
    }

    private static void branches() {
        for (int n = 0; n < 4; n++) {
            WorldEngine x = world("system Z each D { show (100); } system S each C { if C.i < 2 { show (1); if C.i == 0 { show (2); } else { show (3); } } "
                + "else { if C.i == 2 { show (4); } show (5); } show (6); }", 2, 0);
            x.set(0, 0, 0, n);
            Check.tick(x);
            int[][] want = {{6, 2, 1}, {6, 3, 1}, {6, 5, 4}, {6, 5}};
            Check.due("branches of " + n, x.look(8), want[n].length);
            for (int k = 0; k < want[n].length; k++) {
                Check.due("branch " + k + " of " + n, x.shown(k), want[n][k]);
            }
        }
    }

    private static void drops() {
        WorldEngine x = world("system S each C { drop (C.r); drop (C.r); spawn P; }", 1, 0, 2);
        x.set(0, 0, 1, 1);
        Check.tick(x);
        Check.due("passed", x.look(7), 1);
        Check.due("entities", x.look(4), 2);
        Check.due("its place is taken with a new number", x.entity(1), 257);
        Check.yes("it has", x.has(257, 0));
        Check.no("the old number is gone", x.has(1, 2));
        x = world("system S each C { if tick == 1 { drop (self); put (self) C.i = 1; give (self) M; take (self) C; } }", 1, 0);
        Check.tick(x);
        Check.due("passed", x.look(7), 3);
        Check.due("entities", x.look(4), 0);
    }

    private static void gives() {
        WorldEngine x = world("system S each C { give (self) D; give (self) D; put (self) D.j = 4; take (self) C; "
            + "take (self) C; put (self) C.i = 1; take (none) M; give (none) M; }", 1, 0);
        Check.tick(x);
        Check.due("passed", x.look(7), 5);
        Check.no("taken", x.has(0, 0));
        Check.yes("given", x.has(0, 1));
        Check.due("put", x.get(0, 1, 0), 4);
        Check.due("as at first", x.get(0, 1, 1), -1);
        x.set(0, 1, 0, 9);
        x.change(2, 0, 1);
        x.change(1, 0, 0);
        Check.tick(x);
        Check.due("given again, put again", x.get(0, 1, 0), 4);
        Check.due("row", x.row(0, 0), -1);
        x.set(0, 1, 0, 31);
        x.change(2, 0, 0);
        x.change(1, 0, 0);
        Check.due("what another component has stays", x.get(0, 1, 0), 31);
    }

    private static void puts() {
        WorldEngine x = world("system S each C reads C { for o in C { put (o) C.i = o.C.i + 10; } }", 1, 0, 0, 0);
        x.set(0, 0, 0, 1);
        x.set(1, 0, 0, 2);
        x.set(2, 0, 0, 3);
        Check.tick(x);
        // Each was read as the group found it; of two puts the later counts.
        Check.due("first", x.get(0, 0, 0), 11);
        Check.due("second", x.get(1, 0, 0), 12);
        Check.due("third", x.get(2, 0, 0), 13);
        x = world("system S each M { put (none) C.i = 1; put (self) C.i = 1; }", 1, 2);
        Check.tick(x);
        Check.due("passed", x.look(7), 2);
    }

    private static void emits() {
        WorldEngine x = world("system S each C { if tick == 1 { emit E(5, self) to (self) in (2); emit E(6, none) to (none) in (1); "
            + "emit E(7, self) to (self) in (16); } hear E { show (E.p * 1000 + tick); } }", 1, 0);
        Check.tick(x);
        Check.due("pending", x.look(5), 3);
        int[][] want = {{0, 3, 0, 5, 0, -1}, {0, 2, -1, 6, -1, -1}, {0, 17, 0, 7, 0, -1}};
        for (int k = 0; k < 3; k++) {
            for (int what = 0; what < 6; what++) {
                Check.due("pending " + k + " " + what, x.pending(k, what), want[k][what]);
            }
        }
        Check.due("below", x.pending(0, -1), -1);
        Check.due("below", x.pending(-1, 0), -1);
        Check.due("beyond", x.pending(3, 0), -1);
        Check.due("far beyond", x.pending(2147483647, 2147483647), -1);
        Check.tick(x);
        Check.due("gone unheard", x.look(5), 2);
        Check.due("nothing heard", x.look(8), 0);
        Check.tick(x);
        Check.due("heard", x.shown(0), 5003);
        Check.due("gone", x.look(5), 1);
        for (int i = 0; i < 14; i++) {
            Check.tick(x);
        }
        Check.due("heard", x.shown(0), 7017);
        Check.due("none left", x.look(5), 0);
        fullOfEvents();
    }

    private static void fullOfEvents() {
        WorldEngine x = world("system S each C { emit E(1, self) to (self) in (1); }", 1);
        for (int i = 0; i < 200; i++) {
            x.make(0);
        }
        Check.tick(x);
        Check.due("pending", x.look(5), 200);
        Check.due("passed", x.look(7), 0);
        Check.tick(x);
        // Those that are due count till the tick ends.
        Check.due("pending", x.look(5), 56);
        Check.due("passed", x.look(7), 144);
        Check.due("the first target", x.pending(0, 2), 0);
        Check.due("the last target", x.pending(55, 2), 55);
    }

    private static void shows() {
        WorldEngine x = world("system S each C { show (C.i); show (1.5); show (true); show (none); }", 1, 0, 0, 0, 0, 0, 0, 0, 0, 0);
        Check.tick(x);
        Check.due("shown", x.look(8), 32);
        Check.due("passed", x.look(7), 4);
        int[] want = {-1, 1, 98304, 7};
        for (int k = 0; k < 32; k++) {
            Check.due("shown " + k, x.shown(k), want[k & 3]);
        }
        Check.missing("beyond", () -> x.shown(32));
        Check.missing("below", () -> x.shown(-1));
        Check.missing("below", () -> x.shown(-2147483648));
    }

    private static void loops() {
        WorldEngine x = world("system S each M { for o in C { show (o); drop (o); } }", 1, 0, 2, 0, 1);
        Check.tick(x);
        int[] want = {3, 2, 0};
        for (int k = 0; k < 3; k++) {
            Check.due("for " + k, x.shown(k), want[k]);
        }
        Check.due("entities", x.look(4), 1);
        x = world("system S each C { for o in C { for u in C { if o != u { show (u); } } } }", 1, 0, 0, 0);
        Check.tick(x);
        int[] inner = {0, 1, 0, 2, 1, 2};
        for (int k = 0; k < 6; k++) {
            Check.due("nested " + k, x.shown(k), inner[k]);
        }
        x = world("system A each M { if tick == 1 { for o in C { emit E(1, self) to (o) in (1); emit E(2, self) to (o) in (1); } } } "
            + "system B each C { hear E { let a = E.p; hear E { show (a * 10 + E.p); } } }", 2, 2, 0);
        Check.tick(x);
        Check.tick(x);
        int[] heard = {22, 21, 12, 11};
        for (int k = 0; k < 4; k++) {
            Check.due("hear in hear " + k, x.shown(k), heard[k]);
        }
    }

    private static void near() {
        String text = "component At { fix x; fix y; int n; } prefab P { At; } "
            + "system S each At reads At { if At.n == 1 { for o in At near (2.0) { show (o); } } }";
        WorldEngine x = Check.world(text, 0, 1);
        int[][] places = {{0, 0}, {131072, -131072}, {131073, 0}, {0, 131073}, {-131072, 0}, {-131073, -131073}};
        for (int i = 0; i < places.length; i++) {
            x.make(0);
            x.set(i, 0, 0, places[i][0]);
            x.set(i, 0, 1, places[i][1]);
        }
        x.set(0, 0, 2, 1);
        Check.tick(x);
        Check.due("near", x.look(8), 2);
        Check.due("near", x.shown(1), 1);
        Check.due("near", x.shown(0), 4);
        WorldEngine far = Check.world(text.replace("2.0", "32767.9999"), 0, 1);
        far.make(0);
        far.make(0);
        far.set(0, 0, 2, 1);
        far.set(0, 0, 0, 2147483647);
        far.set(1, 0, 0, -2147483648);
        Check.tick(far);
        Check.due("the distance is reckoned exactly", far.look(8), 0);
        WorldEngine below = Check.world(text.replace("2.0", "-0.5"), 0, 1);
        below.make(0);
        below.make(0);
        below.set(0, 0, 2, 1);
        Check.tick(below);
        Check.due("below 0: none", below.look(8), 0);
    }

    private static void own() {
        WorldEngine x = world("system A each C writes C { C.i = C.i + 1; C.i = C.i * 2; show (C.i); C.r = self; } "
            + "system B each C { show (C.i); }", 2, 0, 0);
        Check.tick(x);
        Check.due("two groups", x.look(10), 2);
        for (int k = 0; k < 4; k++) {
            Check.due("own " + k, x.shown(k), 16);
        }
        Check.due("ref", x.get(1, 0, 1), 1);
    }

    private static void order() {
        WorldEngine x = world("system A each C { show (self); } system B each C { show (100); drop (self); } "
            + "system F each C { show (200); }", 3, 0, 0);
        Check.due("one group", x.look(10), 1);
        Check.tick(x);
        int[] want = {200, 200, 100, 100, 1, 0};
        for (int k = 0; k < 6; k++) {
            Check.due("order " + k, x.shown(k), want[k]);
        }
        Check.due("rows are those that the group found", x.look(4), 0);
        x = world("system A each C { drop (self); spawn P; } system B after A each C { show (self); }", 2, 0);
        Check.tick(x);
        Check.due("the next group finds the new one", x.shown(0), 256);
    }
}
