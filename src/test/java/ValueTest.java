/** What Es are worth in a row. */
final class ValueTest {
    private static final String HEAD = "component C { int i; byte b; fix f; bool t; ref r; } prefab P { C; }\n";
    private static final int LEAST = -2147483648;
    private static final int MOST = 2147483647;

    public static void main(String[] args) {
        ints();
        fixes();
        roots();
        bools();
        refs();
        inputs();
        draws();
        held();
        Check.close("ValueTest");
    }

    private static void show(String e, int want) {
        WorldEngine x = Check.world(HEAD + "system S each C { show (" + e + "); }", 0, 1);
        Check.due("make", x.make(0), 0);
        Check.tick(x);
        Check.due("why " + e, x.failure(2), -1);
        Check.due(e, x.shown(0), want);
    }

    private static void fails(String e, int why) {
        WorldEngine x = Check.world(HEAD + "system S each C { show (" + e + "); }", 0, 1);
        Check.due("make", x.make(0), 0);
        Check.tick(x);
        Check.due("why " + e, x.failure(2), why);
        Check.due("shown " + e, x.look(8), 0);
    }

    private static void ints() {
        show("2147483647 + 1", LEAST);
        show("-2147483647 - 2", MOST);
        show("65536 * 65536", 0);
        show("65535 * 65537", -1);
        show("7 / 2", 3);
        show("-7 / 2", -3);
        show("7 / -2", -3);
        show("7 % -2", 1);
        show("-7 % 2", -1);
        show("(-2147483647 - 1) / -1", LEAST);
        show("(-2147483647 - 1) % -1", 0);
        show("-(-2147483647 - 1)", LEAST);
        show("2 + 3 * 4 - 10 / 5", 12);
        show("10 - 4 - 3", 3);
        show("100 / 10 / 5", 2);
        show("100 % 7 * 3", 6);
        show("(2 + 3) * 4", 20);
        show("--5", 5);
        show("tick", 1);
        fails("1 / 0", 1);
        fails("1 % 0", 1);
        fails("1 + 2 / (tick - 1)", 1);
    }

    private static void fixes() {
        show("0.5", 32768);
        show("1.0", 65536);
        show("0.0001", 7);
        show("0.0003", 20);
        show("3.3333", 3 * 65536 + 21843);
        show("32767.9999", 32767 * 65536 + 65529);
        show("0.9999", 65529);
        show("32767.0 + 32767.0", MOST);
        show("-32767.0 - 32767.0", LEAST);
        show("-(-32767.0 - 32767.0)", MOST);
        show("1.5 * 1.5", 147456);
        show("-1.5 * 1.5", -147456);
        show("300.0 * 300.0", MOST);
        show("-300.0 * 300.0", LEAST);
        // 32768 * k / 65536: half of an odd one goes to the even one.
        halfToEven(1, 0);
        halfToEven(3, 2);
        halfToEven(5, 2);
        halfToEven(7, 4);
        halfToEven(-1, 0);
        halfToEven(-3, -2);
        halfToEven(-5, -2);
        show("1.0 / 3.0", 21845);
        show("2.0 / 3.0", 43691);
        show("-1.0 / 3.0", -21845);
        show("1.0 / -3.0", -21845);
        show("-2.0 / -3.0", 43691);
        show("30000.0 / 0.5", MOST);
        show("-30000.0 / 0.5", LEAST);
        show("1.0 / 32767.0", 2);
        fails("1.0 / 0.0", 1);
        show("int(1.9999)", 1);
        show("int(-0.5)", -1);
        show("int(-1.0)", -1);
        show("fix(3)", 3 * 65536);
        show("fix(32768)", MOST);
        show("fix(-32768)", LEAST);
        show("fix(-40000)", LEAST);
        show("1.0 < 1.5", 1);
        show("1.5 == 1.5", 1);
    }

    /** f * 0.5 and f / 2.0 of a fix of k 65536ths. */
    private static void halfToEven(int k, int want) {
        WorldEngine x = Check.world(HEAD + "system S each C { show (C.f * 0.5); show (C.f / 2.0); }", 0, 1);
        x.make(0);
        Check.due("set", x.set(0, 0, 2, k), 0);
        Check.tick(x);
        Check.due("times of " + k, x.shown(1), want);
        Check.due("over of " + k, x.shown(0), want);
    }

    private static void roots() {
        show("root(0.0)", 0);
        show("root(4.0)", 2 * 65536);
        show("root(2.0)", 92681);
        show("root(0.25)", 32768);
        show("root(32767.9999)", 11863283);
        fails("root(-0.0001)", 2);
        for (int e : new int[] {1, 2, 3, 5, 65535, 65537, 1000000, MOST}) {
            WorldEngine x = Check.world(HEAD + "system S each C { show (root(C.f)); }", 0, 1);
            x.make(0);
            x.set(0, 0, 2, e);
            Check.tick(x);
            long root = x.shown(0);
            Check.yes("root of " + e, root * root <= e * 65536L && (root + 1) * (root + 1) > e * 65536L);
        }
    }

    private static void bools() {
        show("true", 1);
        show("false", 0);
        show("!true", 0);
        show("!false", 1);
        show("1 < 2", 1);
        show("2 <= 2", 1);
        show("2 > 2", 0);
        show("2 >= 3", 0);
        show("2 >= 2", 1);
        show("3 > 2", 1);
        show("3 <= 2", 0);
        show("2 < 2", 0);
        show("2 == 2", 1);
        show("2 != 2", 0);
        show("true == false", 0);
        show("true != false", 1);
        show("true || false && false", 1);
        show("(true || false) && false", 0);
        show("1 < 2 && 2 < 3", 1);
        show("true || 1 / 0 == 1", 1);
        show("false && 1 / 0 == 1", 0);
        show("false || false || true || 1 / 0 == 1", 1);
        show("true && true && false && 1 / 0 == 1", 0);
        fails("false || 1 / 0 == 1", 1);
        fails("true && 1 / 0 == 1", 1);
        show("!(1 == 2) && !false", 1);
        decidedEarly();
        show("-1 < 0 || true", 1);
    }

    /** What && and || leave out leaves the values beside it as they are. */
    private static void decidedEarly() {
        WorldEngine x = Check.world(HEAD + "event E(int a, bool b, bool c, int d); system S each C "
            + "{ emit E(5, true || false, false && true, 6) to (self) in (1 + 1); spawn P(C.i = 7, C.t = true || C.t, C.b = 8); }", 0, 1);
        x.make(0);
        Check.tick(x);
        int[] want = {0, 3, 0, 5, 1, 0, 6};
        for (int what = 0; what < want.length; what++) {
            Check.due("pending " + what, x.pending(0, what), want[what]);
        }
        Check.due("int", x.get(1, 0, 0), 7);
        Check.due("bool", x.get(1, 0, 3), 1);
        Check.due("byte", x.get(1, 0, 1), 8);
    }

    private static void refs() {
        show("self", 0);
        show("none", -1);
        show("self == none", 0);
        show("self != none", 1);
        show("C.r == none", 1);
        show("alive(self)", 1);
        show("alive(none)", 0);
        show("alive(C.r)", 0);
        show("has(self, C)", 1);
        show("has(none, C)", 0);
    }

    private static void inputs() {
        WorldEngine x = Check.world(HEAD + "system S each C { show (input(0)); show (input(1)); show (input(3)); "
            + "show (input(4)); show (input(-1)); show (input(2147483647)); }", 0, 1);
        x.make(0);
        x.seat(3, true);
        x.input(0, 1, 77);
        x.input(3, 1, -9);
        x.step();
        int[] want = {0, 0, 0, -9, 0, 77};
        for (int k = 0; k < want.length; k++) {
            Check.due("input shown " + k, x.shown(k), want[k]);
        }
    }

    private static int drawn(int seed, int n, int... withs) {
        int x = seed;
        for (int with : withs) {
            x = (x ^ with) * -1640531535;
            x = x ^ x >>> 15;
        }
        return (x & MOST) % n;
    }

    private static void draws() {
        WorldEngine x = Check.world(HEAD + "system R each C { } system S each C "
            + "{ show (draw(1000)); show (draw(2147483647)); show (draw(1) + draw(50)); }", 12345, 2);
        x.make(0);
        x.make(0);
        Check.tick(x);
        Check.tick(x);
        for (int e = 0; e < 2; e++) {
            int at = e == 0 ? 3 : 0;
            Check.due("first draw", x.shown(at + 2), drawn(12345, 1000, 2, e, 1, 0));
            Check.due("second draw", x.shown(at + 1), drawn(12345, MOST, 2, e, 1, 1));
            Check.due("fourth draw", x.shown(at), drawn(12345, 50, 2, e, 1, 3));
        }
        fails("draw(0)", 7);
        fails("draw(-5)", 7);
    }

    private static void held() {
        WorldEngine x = Check.world(HEAD + "event E(byte b); system S each C writes C { C.b = 1000; show (C.b); "
            + "C.b = -1000; show (C.b); C.b = C.b - 1; show (C.b); C.b = 5; emit E(300) to (self) in (1); "
            + "spawn P(C.b = 128); put (self) C.b = -129; hear E { show (E.b); } }", 0, 1);
        x.make(0);
        Check.tick(x);
        int[] want = {-128, -128, 127};
        for (int k = 0; k < want.length; k++) {
            Check.due("held " + k, x.shown(k), want[k]);
        }
        Check.due("put", x.get(0, 0, 1), -128);
        Check.due("spawned", x.get(1, 0, 1), 127);
        Check.due("emitted", x.pending(0, 3), 127);
    }
}
