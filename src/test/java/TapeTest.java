/** Promises 2 and 3: feed and end. */
final class TapeTest {
    public static void main(String[] args) {
        order();
        room();
        ends();
        emptied();
        Check.close("TapeTest");
    }

    private static void order() {
        WorldEngine x = new WorldEngine(1);
        // "component C { int a;" and " }" with blanks behind it.
        Check.yes("feed", x.feed(0x636f6d70, 0x6f6e656e, 0x74204320, 0x7b20696e, 0x7420613b));
        Check.yes("feed", x.feed(0x207d2020, 0x20202020, 0x20202020, 0x20202020, 0x20202020));
        Check.due("tape", x.look(13), 40);
        Check.due("text", x.text(0), 0);
        Check.due("components", x.look(1), 1);
        // A byte above 127 is one byte that begins no token.
        Check.yes("feed", x.feed(0x20202020, 0x20ffffff, -1, -1, -1));
        Check.due("text", x.text(0), -1);
        Check.due("place", x.fault(0), 5);
    }

    private static void room() {
        WorldEngine x = new WorldEngine(1);
        for (int i = 0; i < 300; i++) {
            Check.yes("feed " + i, x.feed(0x20202020, 0x20202020, 0x20202020, 0x20202020, 0x2020200a));
            if (i % 10 == 9) {
                Check.due("tape", x.look(13), 20 * i + 20);
            }
        }
        Check.no("feed without room", x.feed(0, 0, 0, 0, 0));
        Check.due("tape", x.look(13), 6000);
        Check.yes("end", x.end(5981));
        Check.no("feed without room", x.feed(0, 0, 0, 0, 0));
        Check.due("tape", x.look(13), 5981);
        Check.yes("end", x.end(5980));
        Check.yes("feed", x.feed(0x20202020, 0x20202020, 0x20202020, 0x20202020, 0x2020203f));
        Check.due("text", x.text(0), -1);
        Check.due("place", x.fault(0), 5999);
        Check.due("tape", x.look(13), 0);
    }

    private static void ends() {
        WorldEngine x = new WorldEngine(1);
        Check.yes("end of nothing", x.end(0));
        Check.no("end beyond", x.end(1));
        Check.no("end below", x.end(-1));
        Check.yes("feed", x.feed(0, 0, 0, 0, 0));
        Check.no("end below", x.end(-2147483648));
        Check.no("end beyond", x.end(21));
        Check.no("end far beyond", x.end(2147483647));
        Check.due("tape", x.look(13), 20);
        Check.yes("end as it is", x.end(20));
        Check.yes("end", x.end(7));
        Check.due("tape", x.look(13), 7);
        Check.no("end of what is cut", x.end(8));
    }

    private static void emptied() {
        WorldEngine x = new WorldEngine(1);
        Check.feed(x, "component C { int a; } system S each C { }");
        Check.due("text", x.text(0), 1);
        Check.due("tape behind text", x.look(13), 0);
        Check.feed(x, "what");
        Check.due("text", x.text(0), -1);
        Check.due("tape behind a fault", x.look(13), 0);
        Check.feed(x, "component");
        Check.due("swap", x.swap(), -1);
        Check.due("tape behind swap", x.look(13), 0);
        Check.due("the first text stays", x.look(0), 1);
    }
}
