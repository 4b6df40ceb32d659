/** Promises 20 and 21: looks, each with a number of its own. */
final class LookTest {
    public static void main(String[] args) {
        WorldEngine x = new WorldEngine(5);
        Check.feed(x, "component A { int a; } component B { } component C { } event E(); prefab P { A; } "
            + "system S each A writes A { show (1); if A.a == 5 { fail; } A.a = A.a + input(0); } "
            + "system T each A { if tick == 4 { drop (none); emit E() to (none) in (2); emit E() to (none) in (3); } } "
            + "system U each A { }");
        Check.due("text", x.text(0), 3);
        for (int i = 0; i < 6; i++) {
            x.make(0);
        }
        x.set(3, 0, 0, 5);
        x.save();
        Check.yes("cut", x.cut(999));
        Check.tick(x);
        Check.tick(x);
        x.step();
        x.step();
        x.input(0, 4, 1);
        x.seat(3, true);
        x.feed(0, 0, 0, 0, 0);
        int[] want = {3, 3, 4, 2, 6, 12, 4, 6, 10, 999, 2, 5, 1, 20, 9};
        for (int what = 0; what < want.length; what++) {
            Check.due("look " + what, x.look(what), want[what]);
        }
        for (int what : new int[] {-1, 15, 16, 2147483647, -2147483648}) {
            Check.due("look " + what, x.look(what), -1);
        }
        Check.due("pending", x.pending(11, 1), 7);
        Check.due("pending", x.pending(11, 0), 0);
        Check.due("pending", x.pending(11, 2), -1);
        Check.due("no member", x.pending(11, 3), -1);
        Check.due("no such event", x.pending(12, 0), -1);
        Check.close("LookTest");
    }
}
