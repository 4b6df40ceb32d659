/** Promises 1 to 12, sentence by sentence. */
final class Promises1To12Test {
    private static final int LEAST = -2147483648;
    private static final int MOST = 2147483647;
    // Prefab 0 has a C, 1 a D, 2 none.
    private static final String TEXT = "component C { int i; byte b; fix f; bool t; ref r; } component D { int j; ref q; } event E(int p); "
        + "prefab P { C(i = 5); } prefab Q { D; } prefab Z { } system S each C { show (input(0)); if C.i == 9 { fail; } } system T each D { drop (none); emit E(1) to (none) in (16); } ";

    public static void main(String[] args) {
        newObject();
        feed();
        end();
        text();
        fault();
        swap();
        step();
        input();
        seat();
        make();
        change();
        set();
        Check.close("Promises1To12Test");
    }

    private static WorldEngine world(int... prefabs) {
        WorldEngine x = Check.world(TEXT, 7, 2);
        for (int prefab : prefabs) {
            Check.yes("make", x.make(prefab) >= 0);
        }
        return x;
    }

    /** Looks with these answers, from look(0) on; -9 is for any. */
    private static void looks(WorldEngine x, int... want) {
        for (int what = 0; what < want.length; what++) {
            if (want[what] != -9) {
                Check.due("look " + what, x.look(what), want[what]);
            }
        }
    }

    private static void newObject() {
        Sentence s = Sentence.promise(1);
        s.holds("Workers 0 up to workers - 1 are UP (1 .. 8, else the nearest).", () -> {
            int[][] asked = {{1, 1}, {2, 2}, {5, 5}, {8, 8}, {0, 1}, {-1, 1}, {LEAST, 1}, {9, 8}, {32, 8}, {33, 8}, {MOST, 8}};
            for (int[] one : asked) {
                WorldEngine x = new WorldEngine(one[0]);
                Check.due("workers of " + one[0], x.look(11), one[1]);
                for (int worker = 0; worker < 8; worker++) {
                    Check.due("worker " + worker + " of " + one[0], x.fall(worker) ? 1 : 0, worker < one[1] ? 1 : 0);
                }
            }
        });
        s.holds("No text, SEED 0, an empty world, TICK 0.", () -> {
            WorldEngine x = new WorldEngine(1);
            looks(x, 0, 0, 0, 0, 0, 0, 0, 0, 0, 0, 0, 1, 0, 0, 1);
            Check.due("no text", x.step(), -3);
            Check.due("no text", x.load(), -2000000);
            Check.due("no prefab", x.make(0), -1);
            Check.due("no entity", x.entity(0), -1);
            Check.due("no fault", x.fault(0), -1);
            Check.due("save", x.save(), 2 + 2 + 16 + 256 * 5 + 2);
            for (int k = 2; k < 60; k++) {
                Check.due("byte " + k, x.byteOut(k), 0);
            }
            WorldEngine y = new WorldEngine(1);
            int sum = y.sum();
            Check.due("text", y.text(0), 0);
            Check.due("as an empty text with the seed 0", y.sum(), sum);
        });
        s.close();
    }

    private static void feed() {
        Sentence s = Sentence.promise(2);
        s.holds("Twenty bytes come to the tape, the highest of each int first: true;", () -> {
            WorldEngine x = new WorldEngine(1);
            Check.yes("feed", x.feed(0x636f6d70, 0x6f6e656e, 0x74204142, 0x43447b69, 0x6e742061));
            Check.due("tape", x.look(13), 20);
            Check.yes("feed", x.feed(0x3b7d6576, 0x656e7420, 0x4528293b, 0x20202020, 0x2020203f));
            Check.due("tape", x.look(13), 40);
            Check.due("component ABCD{int a;}event E(); and a ? at the end", x.text(0), -1);
            Check.due("the last byte", x.fault(0), 39);
            Check.yes("feed", x.feed(0x20202020, 0x20202020, 0x20202020, 0x20202020, 0xfe202020));
            Check.due("a byte above 127", x.text(0), -1);
            Check.due("its place", x.fault(0), 16);
        });
        s.holds("false, changing nothing, without room.", () -> {
            WorldEngine x = new WorldEngine(1);
            int blanks = 0x20202020;
            for (int i = 0; i < 299; i++) {
                Check.yes("feed", x.feed(blanks, blanks, blanks, blanks, blanks));
            }
            Check.due("tape", x.look(13), 5980);
            Check.yes("room for twenty", x.feed(blanks, blanks, blanks, blanks, blanks));
            Check.no("room for none", x.feed(-1, -1, -1, -1, -1));
            Check.due("tape", x.look(13), 6000);
            Check.yes("end", x.end(5981));
            Check.no("room for nineteen", x.feed(-1, -1, -1, -1, -1));
            Check.due("tape", x.look(13), 5981);
            Check.due("nothing came", x.text(0), 0);
        });
        s.close();
    }

    private static void end() {
        Sentence s = Sentence.promise(3);
        s.holds("The tape has its first n bytes alone: true;", () -> {
            WorldEngine x = new WorldEngine(1);
            x.feed(0x20202020, 0x3f202020, 0x20202020, 0x20202020, 0x20202020);
            Check.yes("as it is", x.end(20));
            Check.due("tape", x.look(13), 20);
            Check.yes("with the ?", x.end(5));
            Check.due("tape", x.look(13), 5);
            Check.yes("without it", x.end(4));
            Check.due("text", x.text(0), 0);
            Check.yes("empty", x.end(0));
            x.feed(0x20202020, 0x3f202020, 0x20202020, 0x20202020, 0x20202020);
            Check.yes("empty", x.end(0));
            Check.due("tape", x.look(13), 0);
            x.feed(0x20203f20, 0x20202020, 0x20202020, 0x20202020, 0x20202020);
            Check.due("text", x.text(0), -1);
            Check.due("new bytes come behind what is left", x.fault(0), 2);
            // Tokens end where the tape does, whatever stood behind it.
            String[][] cuts = {{"component C { } system S each C { show (1.", "5"}, {"component C { } component D", "1 { }"},
                {"component C { } system S each C { show (1 <", "= 1"}, {"component C { } system S each C { show (12", "34"}};
            int[] places = {41, 27, 43, 42};
            for (int i = 0; i < cuts.length; i++) {
                Check.feed(x, cuts[i][0] + cuts[i][1]);
                Check.yes("end", x.end(cuts[i][0].length()));
                Check.due(cuts[i][0], x.text(0), -1);
                Check.due(cuts[i][0] + " place", x.fault(0), places[i]);
            }
        });
        s.holds("false if it has less, or n is below 0.", () -> {
            WorldEngine x = new WorldEngine(1);
            Check.no("beyond", x.end(1));
            Check.no("below", x.end(-1));
            x.feed(0, 0, 0, 0, 0);
            Check.no("beyond", x.end(21));
            Check.no("far beyond", x.end(MOST));
            Check.no("below", x.end(-1));
            Check.no("far below", x.end(LEAST));
            Check.due("tape", x.look(13), 20);
            Check.yes("end", x.end(9));
            Check.no("what is gone", x.end(10));
        });
        s.close();
    }

    private static void text() {
        Sentence s = Sentence.promise(4);
        s.holds("Reads the TEXT: how many systems, and there is a new world with that SEED: TICK 0, no inputs, nothing told as SHOWN (players, workers, the "
            + "OUT stay);", () -> {
            WorldEngine x = world(0, 1, 0, 0);
            x.set(2, 0, 0, 9);
            x.change(0, 0, 0);
            x.seat(2, true);
            x.stand(4);
            x.fall(0);
            x.save();
            int out = x.look(9);
            x.input(0, 1, 3);
            x.input(2, 1, 0);
            Check.due("step", x.step(), 1);
            x.fall(4);
            x.stand(6);
            x.step();
            x.input(0, 2, 5);
            Check.due("run again", x.look(12), 1);
            x.input(0, 4, 5);
            Check.due("told", x.look(8), 1);
            Check.due("failed", x.failure(2), 4);
            Check.yes("passed over", x.look(7) > 0);
            Check.yes("pending", x.look(5) > 0);
            Check.feed(x, TEXT);
            Check.due("text", x.text(-8), 2);
            looks(x, 2, 2, 0, 0, 0, 0, 0, 0, 0, out, 1, 1, 0, 0, 5);
            Check.due("no failure", x.failure(2), -1);
            Check.missing("nothing told", () -> x.shown(0));
            Check.due("generations are new", x.make(0) + x.make(0), 1);
            Check.due("no input came", x.input(0, 4, 5), 0);
            x.step();
            Check.due("and none is guessed", x.input(0, 1, 0), 0);
            Check.no("worker 4 is down", x.fall(4));
            Check.yes("worker 6 is up", x.fall(6));
            for (int seed : new int[] {0, 1, -1, LEAST, MOST}) {
                x.text(seed);
                x.save();
                for (int i = 0; i < 4; i++) {
                    Check.due("seed", x.byteOut(8 + i), seed >>> 24 - 8 * i & 255);
                }
                Check.due("an empty text has no systems", x.look(0), 0);
            }
            sameTextAgain();
        });
        s.holds("or minus the kind of its FAULT, and all is as before.", () -> {
            WorldEngine x = world(0, 1);
            x.input(0, 1, 3);
            x.step();
            x.step();
            x.input(0, 4, 6);
            int sum = x.sum();
            String[] faults = {"?", "component abcdefghijklm { }", "component C { } component C { }", "prefab P { C; }", "prefab P { P; }"};
            for (int kind = 1; kind <= 5; kind++) {
                Check.feed(x, faults[kind - 1]);
                Check.due("fault " + kind, x.text(99), -kind);
                Check.due("sum", x.sum(), sum);
                looks(x, 2, 2, 2, 1, 2, 2, 0, 2, 1, 0, 1, 1, 0, 0, 1);
            }
            Check.due("the input came", x.input(0, 4, 6), -4);
            Check.due("the other is guessed", x.input(0, 2, 3), 0);
            Check.due("told", x.shown(0), 3);
            Check.due("the text's prefabs", x.make(1), 2);
            WorldEngine y = new WorldEngine(1);
            Check.feed(y, "system");
            Check.due("a fault where there was no text", y.text(0), -1);
            Check.due("there is none still", y.step(), -3);
            nothingIsLeftOfAFault();
        });
        s.close();
    }

    /** The same text again and again: nothing of the one before is known, counted or there. */
    private static void sameTextAgain() {
        WorldEngine x = new WorldEngine(1);
        for (int turn = 0; turn < 5; turn++) {
            Check.feed(x, TEXT);
            Check.due("text", x.text(turn), 2);
            looks(x, 2, 2, 0, 0, 0, 0, 0, 0, 0, 0, 1, 1, 0, 0, 1);
            Check.due("three prefabs", x.make(3), -1);
            Check.due("make", x.make(0), 0);
            Check.due("make", x.make(1), 1);
            Check.due("a prefab's value", x.get(0, 0, 0), 5);
            Check.tick(x);
            looks(x, 2, 2, 1, 1, 2, 1, 0, 1, 1);
        }
    }

    /** A fault deep within a text leaves nothing open, visible or told for the next one. */
    private static void nothingIsLeftOfAFault() {
        WorldEngine x = new WorldEngine(1);
        String head = "component C { int i; } event E(int p); system S each C { ";
        for (int turn = 0; turn < 3; turn++) {
            Check.feed(x, head + "let a = 1; for o in C { let b = 1; " + "hear E { ".repeat(13) + "let c = ((-(?");
            Check.due("a fault deep within", x.text(0), -1);
            StringBuilder locals = new StringBuilder();
            for (int i = 1; i <= 12; i++) {
                locals.append("let a").append(i).append(" = 1; ");
            }
            Check.feed(x, head + locals + "if true { ".repeat(20) + "} ".repeat(20) + "}");
            Check.due("as much as may be", x.text(0), 1);
            Check.feed(x, head + "show (a); }");
            Check.due("no such LOCAL", x.text(0), -4);
            Check.feed(x, head + "show (E.p); }");
            Check.due("no such hear", x.text(0), -5);
        }
    }

    private static void fault() {
        Sentence s = Sentence.promise(5);
        s.holds("Of the latest text() or swap() that read: the place of its FAULT (what 0), its kind (1);", () -> {
            WorldEngine x = new WorldEngine(1);
            Check.feed(x, "  ?");
            x.text(0);
            Check.due("place", x.fault(0), 2);
            Check.due("kind", x.fault(1), 1);
            Check.feed(x, "component C { } component C");
            x.swap();
            Check.due("place of swap's", x.fault(0), 26);
            Check.due("kind of swap's", x.fault(1), 3);
            Check.feed(x, "");
            x.text(0);
            Check.due("the latest has none", x.fault(0), -1);
            Check.feed(x, "prefab P { Q; }");
            x.swap();
            Check.due("kind", x.fault(1), 4);
            WorldEngine y = world(0);
            Check.feed(y, "?");
            y.text(0);
            y.step();
            Check.feed(y, "   ?");
            Check.due("not quiet", y.swap(), -10);
            Check.due("that one did not read", y.fault(0), 0);
            y.input(0, 1, 0);
            Check.due("swap", y.swap(), -1);
            Check.due("this one did", y.fault(0), 3);
        });
        s.holds("NONE without one, or for another what.", () -> {
            WorldEngine x = new WorldEngine(1);
            for (int what : new int[] {0, 1, 2, -1}) {
                Check.due("at first", x.fault(what), -1);
            }
            x.text(0);
            Check.due("without one", x.fault(0), -1);
            Check.due("without one", x.fault(1), -1);
            Check.feed(x, "?");
            x.text(0);
            for (int what : new int[] {2, 3, -1, MOST, LEAST}) {
                Check.due("another what", x.fault(what), -1);
            }
        });
        s.close();
    }

    private static void swapped(WorldEngine x, String text, int want) {
        Check.feed(x, text);
        Check.due("swap", x.swap(), want);
    }

    private static void swap() {
        Sentence s = Sentence.promise(6);
        s.holds("Reads the TEXT (also where there was none), and carries the world into it: how many systems;", () -> {
            WorldEngine x = new WorldEngine(1);
            swapped(x, TEXT, 2);
            Check.due("systems", x.look(0), 2);
            Check.due("make", x.make(0), 0);
            Check.due("step", x.step(), 1);
            WorldEngine y = world(0, 1);
            swapped(y, TEXT + "system U each C { } ", 3);
            Check.due("entities", y.look(4), 2);
            Check.due("a member", y.get(0, 0, 0), 5);
            swapped(y, "", 0);
            Check.due("entities without components", y.look(4), 2);
            Check.due("systems", y.look(0), 0);
        });
        s.holds("minus the kind of its FAULT;", () -> {
            WorldEngine x = world(0);
            int sum = x.sum();
            String[] faults = {"?", "component abcdefghijklm { }", "component C { } component C { }", "prefab P { C; }", "prefab P { P; }"};
            for (int kind = 1; kind <= 5; kind++) {
                swapped(x, faults[kind - 1], -kind);
                Check.due("kind", x.fault(1), kind);
                Check.due("all is as before", x.sum(), sum);
                looks(x, 2, 2, 0, 0, 1);
            }
        });
        s.holds("-10 if the world is not QUIET (ahead of all: nothing is read then).", () -> {
            WorldEngine x = world(0);
            x.step();
            Check.feed(x, "component ?");
            Check.due("not quiet", x.swap(), -10);
            Check.due("the tape stays", x.look(13), 11);
            Check.due("no fault", x.fault(0), -1);
            x.input(0, 1, 0);
            Check.due("quiet", x.swap(), -1);
        });
        s.holds("Components, their members and events go by NAMES: what the new text has not is gone (an event, too, whose members are not of the same "
            + "kinds in order);", () -> {
            WorldEngine x = Check.world("component A { int a; int b; } component B { int c; } event E(int p, ref q); event F(byte p); event G(); "
                + "prefab P { A(a = 1, b = 2); B(c = 3); } "
                + "system S each A { emit E(7, self) to (self) in (3); emit F(8) to (self) in (4); emit G() to (none) in (5); emit E(9, none) to (self) in (6); }", 0, 1);
            x.make(0);
            Check.tick(x);
            swapped(x, "component B { int c; } event G(); component A { int x; int b; int a; } event F(int p); event E(int other, ref names);", 0);
            Check.due("B is the first", x.get(0, 0, 0), 3);
            Check.due("A's members: a new one", x.get(0, 1, 0), 0);
            Check.due("b", x.get(0, 1, 1), 2);
            Check.due("a", x.get(0, 1, 2), 1);
            Check.due("F is of another kind", x.look(5), 3);
            int[][] want = {{2, 4, 0, 7, 0}, {0, 6, -1, -1, -1}, {2, 7, 0, 9, -1}};
            for (int k = 0; k < 3; k++) {
                for (int what = 0; what < 5; what++) {
                    Check.due("pending " + k + " " + what, x.pending(k, what), want[k][what]);
                }
            }
            swapped(x, "component A { int a; } event E(ref q, int p); event G(int p);", 0);
            Check.no("B is gone", x.has(0, 1));
            Check.due("another order, another number", x.look(5), 0);
            // An event that the last text has not, whichever text had it before.
            String emits = "component A { } event N(); prefab P { A; } system S each A { emit N() to (self) in (16); }";
            WorldEngine y = Check.world(emits, 0, 1);
            y.make(0);
            Check.tick(y);
            swapped(y, emits, 1);
            Check.due("pending", y.look(5), 1);
            swapped(y, "component A { }", 0);
            Check.due("gone", y.look(5), 0);
            StringBuilder eight = new StringBuilder("component A { } ");
            for (int e = 0; e < 8; e++) {
                eight.append("event E").append(e).append("(); ");
            }
            WorldEngine z = Check.world(emits, 0, 1);
            z.make(0);
            Check.tick(z);
            swapped(z, eight.toString(), 0);
            Check.due("gone", z.look(5), 0);
            swapped(x, "component A { int a; int b; } component B { int c; }", 0);
            Check.yes("A stays", x.has(0, 0));
            Check.no("what was gone is gone", x.has(0, 1));
            Check.due("a stays", x.get(0, 0, 0), 1);
            Check.due("b was gone", x.get(0, 0, 1), 0);
            wholeWorldSwapped();
            // A NAME of another sort is none such.
            swapped(x, "prefab A { } event B(); component C { int a; }", 0);
            Check.no("A is no component any more", x.has(0, 0));
            Check.due("the entity stays", x.entity(0), 0);
        });
        s.holds("a new member is 0 (a REF -1).", () -> {
            WorldEngine x = Check.world("component A { int a; } prefab P { A(a = 4); }", 0, 0);
            x.make(0);
            swapped(x, "component A { ref e; byte b; fix c; int a; bool d; int f; }", 0);
            int[] want = {-1, 0, 0, 4, 0, 0};
            for (int m = 0; m < want.length; m++) {
                Check.due("member " + m, x.get(0, 0, m), want[m]);
            }
        });
        swappedKinds(s);
        swappedRest(s);
        s.close();
    }

    /** A full world is carried from text to text, and has nothing that the last text has not. */
    private static void wholeWorldSwapped() {
        WorldEngine x = Check.world("component A { int a; int b; } component B { int c; } component G { } prefab P { A; B; G; }", 0, 0);
        for (int i = 0; i < 256; i++) {
            x.make(0);
        }
        for (int i = 0; i < 256; i += 51) {
            x.set(i, 0, 0, 1000 + i);
            x.set(i, 0, 1, 2000 + i);
            x.set(i, 1, 0, 3000 + i);
        }
        swapped(x, "component A { int a; int b; } component B { int c; } component G { }", 0);
        swapped(x, "component G { } component A { int b; int a; }", 0);
        for (int i = 0; i < 256; i += 51) {
            Check.yes("has", x.has(i, 0) && x.has(i, 1));
            Check.due("a", x.get(i, 1, 1), 1000 + i);
            Check.due("b", x.get(i, 1, 0), 2000 + i);
        }
        Check.due("saved", x.save(), 2 + 1 + 1 + 3 + 1 + 16 + 256 * (7 + 8) + 2);
        Check.due("and loaded", x.load(), 0);
        StringBuilder many = new StringBuilder();
        for (int c = 0; c < 15; c++) {
            many.append("component C").append(c).append(" { int a; int b; } ");
        }
        swapped(x, many + "component A { int a; }", 0);
        Check.due("among sixteen", x.get(255, 15, 0), 1255);
        Check.no("none of the new ones", x.has(255, 14));
        swapped(x, "component A { int a; } component New { }", 0);
        Check.no("a new one is had by none", x.has(255, 1));
        swapped(x, "component A { int a; }", 0);
        Check.due("saved", x.save(), 2 + 1 + 2 + 1 + 16 + 256 * (7 + 4) + 2);
        Check.due("and loaded", x.load(), 0);
        Check.due("a", x.get(255, 0, 0), 1255);
    }

    /** A member of one kind with a value, behind a swap to another kind. */
    private static void turned(String from, int value, String to, int want) {
        WorldEngine x = Check.world("component A { int z; " + from + " a; } prefab P { A; }", 0, 0);
        x.make(0);
        x.set(0, 0, 1, value);
        Check.due("as it was set", x.get(0, 0, 1), value);
        swapped(x, "component A { " + to + " a; }", 0);
        Check.due(from + " " + value + " to " + to, x.get(0, 0, 0), want);
    }

    private static void turned(String from, String to, int[][] pairs) {
        for (int[] pair : pairs) {
            turned(from, pair[0], to, pair[1]);
        }
    }

    private static void swappedKinds(Sentence s) {
        s.holds("A member of another KIND: to INT a FIX rounded down, others as they are;", () -> {
            turned("fix", "int", new int[][] {{65536, 1}, {65535, 0}, {-1, -1}, {-65536, -1}, {-65537, -2}, {MOST, 32767}, {LEAST, -32768}});
            turned("byte", "int", new int[][] {{-128, -128}, {127, 127}});
            turned("bool", "int", new int[][] {{0, 0}, {1, 1}});
            turned("int", "int", new int[][] {{LEAST, LEAST}, {MOST, MOST}});
        });
        s.holds("to BYTE likewise, HELD;", () -> {
            turned("fix", "byte", new int[][] {{98304, 1}, {-1, -1}, {127 * 65536 + 65535, 127}, {128 * 65536, 127},
                {-128 * 65536, -128}, {-128 * 65536 - 1, -128}, {LEAST, -128}});
            turned("int", "byte", new int[][] {{127, 127}, {128, 127}, {MOST, 127}, {-128, -128}, {-129, -128}, {LEAST, -128}, {256, 127}});
            turned("bool", "byte", new int[][] {{0, 0}, {1, 1}});
        });
        s.holds("to FIX 65536 times an INT, BYTE or BOOL, HELD;", () -> {
            turned("int", "fix", new int[][] {{1, 65536}, {-1, -65536}, {32767, 32767 * 65536}, {32768, MOST}, {65536, MOST}, {MOST, MOST},
                {-32768, LEAST}, {-32769, LEAST}, {LEAST, LEAST}});
            turned("byte", "fix", new int[][] {{127, 127 * 65536}, {-128, -128 * 65536}});
            turned("bool", "fix", new int[][] {{0, 0}, {1, 65536}});
            turned("fix", "fix", new int[][] {{LEAST, LEAST}, {5, 5}});
        });
        s.holds("to BOOL whether it is not 0;", () -> {
            turned("int", "bool", new int[][] {{0, 0}, {1, 1}, {2, 1}, {-1, 1}, {LEAST, 1}});
            turned("byte", "bool", new int[][] {{0, 0}, {-128, 1}, {2, 1}});
            turned("fix", "bool", new int[][] {{0, 0}, {1, 1}, {-1, 1}, {65536, 1}});
        });
        s.holds("but from or to a REF: -1 for a REF, 0 for others.", () -> {
            turned("int", "ref", new int[][] {{0, -1}, {5, -1}});
            turned("byte", "ref", new int[][] {{5, -1}});
            turned("fix", "ref", new int[][] {{65536, -1}});
            turned("bool", "ref", new int[][] {{1, -1}});
            turned("ref", "int", new int[][] {{5, 0}, {-1, 0}});
            turned("ref", "byte", new int[][] {{5, 0}, {-1, 0}});
            turned("ref", "fix", new int[][] {{5, 0}, {-1, 0}});
            turned("ref", "bool", new int[][] {{5, 0}, {-1, 0}});
            turned("ref", "ref", new int[][] {{5, 5}, {-1, -1}, {MOST, MOST}});
        });
    }

    private static void swappedRest(Sentence s) {
        s.holds("All else stays (there is no FAILURE).", () -> {
            WorldEngine x = Check.world("component C { int i; } prefab P { C; } system S each C { show (5); drop (none); if C.i == 1 { fail; } }", 77, 1);
            x.make(0);
            x.make(0);
            x.make(0);
            x.change(0, 1, 0);
            x.set(2, 0, 0, 1);
            x.seat(2, true);
            x.stand(3);
            x.save();
            int out = x.look(9);
            x.input(0, 1, 3);
            x.step();
            Check.due("run again", x.input(2, 1, 4), 1);
            x.input(2, 3, 9);
            Check.due("failure", x.failure(2), 4);
            Check.feed(x, "component C { int i; } prefab P { C; } system S each C { show (input(0) * 10 + input(2)); show (draw(1000)); }");
            Check.due("swap", x.swap(), 1);
            for (int what = 0; what < 3; what++) {
                Check.due("no failure", x.failure(what), -1);
            }
            looks(x, 1, 1, 1, 1, 2, 0, 1, 1, 1, out, 1, 2, 1, 0, 5);
            Check.due("told", x.shown(0), 5);
            Check.due("the input came", x.input(2, 3, 9), -4);
            Check.due("generations stay", x.make(0), 257);
            x.change(0, 257, 0);
            Check.due("step", x.step(), 2);
            x.input(0, 2, 3);
            x.input(2, 2, 4);
            Check.due("what came is guessed", x.look(12), 1);
            Check.due("told", x.shown(3), 34);
            int seeded = 77;
            for (int with : new int[] {2, 0, 0, 0}) {
                seeded = (seeded ^ with) * -1640531535;
                seeded ^= seeded >>> 15;
            }
            Check.due("the seed stays", x.shown(2), (seeded & MOST) % 1000);
        });
    }

    private static void step() {
        Sentence s = Sentence.promise(7);
        s.holds("One tick more: NOW.", () -> {
            WorldEngine x = world(0);
            for (int t = 1; t <= 5; t++) {
                Check.due("step", x.step(), t);
                Check.due("now", x.look(2), t);
            }
        });
        s.holds("-1 if it is 16 above CONFIRMED;", () -> {
            WorldEngine x = world(0);
            for (int t = 1; t <= 16; t++) {
                Check.due("step", x.step(), t);
            }
            Check.due("16 above", x.step(), -1);
            Check.due("now", x.look(2), 16);
            x.input(0, 1, 0);
            Check.due("15 above", x.step(), 17);
            Check.due("16 above", x.step(), -1);
        });
        s.holds("-2 if no worker is UP but such as fall in it;", () -> {
            WorldEngine x = world(0);
            x.fall(0);
            Check.due("it falls in it", x.step(), -2);
            Check.due("now", x.look(2), 0);
            Check.due("it is up still", x.look(11), 1);
            x.stand(1);
            Check.due("another one is up", x.step(), 1);
            x.fall(1);
            Check.due("one is down, one falls", x.step(), -2);
            x.stand(1);
            Check.due("it falls no more", x.step(), 2);
        });
        s.holds("-3 without a text;", () -> {
            WorldEngine x = new WorldEngine(1);
            Check.due("none", x.step(), -3);
            Check.due("now", x.look(2), 0);
            Check.feed(x, "?");
            x.text(0);
            Check.due("none still", x.step(), -3);
            Check.due("an empty one", x.text(0), 0);
            Check.due("step", x.step(), 1);
        });
        s.holds("-4 if TICK is 1000000000.", () -> {
            WorldEngine x = Check.world("", 0, 0);
            x.save();
            int[] before = {0x3b, 0x9a, 0xc9, 0xff};
            for (int i = 0; i < 4; i++) {
                x.bend(4 + i, before[i]);
            }
            Check.due("load", x.load(), 0);
            Check.due("the last step", x.step(), 1000000000);
            Check.due("no more", x.step(), -4);
            x.input(0, 1000000000, 0);
            Check.due("confirmed", x.look(3), 1000000000);
            Check.due("no more", x.step(), -4);
            x.fall(0);
            Check.due("-2 is ahead of it", x.step(), -2);
        });
        s.close();
    }

    private static void input() {
        Sentence s = Sentence.promise(8);
        s.holds("The bits of a player for a tick come: how many ticks are run again;", () -> {
            WorldEngine x = world(0);
            for (int t = 1; t <= 10; t++) {
                x.step();
            }
            Check.due("the last one", x.input(0, 10, 1), 1);
            Check.due("from 3 on", x.input(0, 3, MOST), 8);
            Check.due("as guessed", x.input(0, 4, MOST), 0);
            Check.due("for a tick to come", x.input(0, 11, 5), 0);
            Check.due("the farthest", x.input(0, 26, 5), 0);
            Check.due("all", x.input(0, 1, LEAST), 10);
            Check.due("in all", x.look(12), 19);
        });
        s.holds("-1 no such player;", () -> {
            WorldEngine x = world(0);
            for (int player : new int[] {-1, 4, 5, 32, MOST, LEAST}) {
                Check.due("player " + player, x.input(player, 1, 0), -1);
            }
        });
        s.holds("-2 the tick is not CONFIRMED + 1 .. NOW + 16;", () -> {
            WorldEngine x = world(0);
            for (int tick : new int[] {0, -1, LEAST, 17, 18, 65, MOST}) {
                Check.due("tick " + tick, x.input(0, tick, 0), -2);
            }
            Check.due("the first", x.input(0, 1, 0), 0);
            Check.due("the last", x.input(0, 16, 0), 0);
            x.step();
            x.step();
            Check.due("confirmed", x.look(3), 1);
            Check.due("the confirmed one", x.input(0, 1, 0), -2);
            Check.due("the next one", x.input(0, 2, 0), 0);
            Check.due("now + 17", x.input(0, 19, 0), -2);
            Check.due("now + 16", x.input(0, 18, 0), 0);
        });
        s.holds("-3 the player is not ON (up to NOW: none of that tick's);", () -> {
            WorldEngine x = world(0);
            Check.due("not on", x.input(3, 1, 0), -3);
            x.step();
            x.seat(3, true);
            Check.due("none of that tick's", x.input(3, 1, 0), -3);
            Check.due("on", x.input(3, 2, 0), 0);
            x.step();
            x.seat(3, false);
            Check.due("it came", x.input(3, 2, 0), -4);
            Check.due("not on any more", x.input(3, 3, 0), -3);
            x.seat(0, false);
            Check.due("one of that tick's", x.input(0, 2, 0), 0);
            Check.due("not on any more", x.input(0, 3, 0), -3);
        });
        s.holds("-4 they came already.", () -> {
            WorldEngine x = world(0);
            Check.due("it comes", x.input(0, 5, 1), 0);
            Check.due("the same", x.input(0, 5, 1), -4);
            Check.due("other bits", x.input(0, 5, 2), -4);
            x.step();
            x.step();
            Check.due("it comes", x.input(0, 2, 7), 1);
            Check.due("again", x.input(0, 2, 8), -4);
            x.step();
            x.input(0, 1, 0);
            x.input(0, 3, 7);
            Check.due("the first bits count", x.shown(0), 7);
            // What came for a tick did not come for one long behind it.
            WorldEngine y = world(0);
            for (int t = 1; t <= 140; t++) {
                Check.due("input for " + t, y.input(0, t, 1), 0);
                Check.due("step", y.step(), t);
            }
        });
        s.close();
    }

    private static void seat() {
        Sentence s = Sentence.promise(9);
        s.holds("A player is ON or not from the next tick on (when it is not, what came from it for ticks above NOW is forgotten): true;", () -> {
            WorldEngine x = world(0);
            Check.yes("on", x.seat(1, true));
            Check.due("on", x.look(14), 3);
            x.input(0, 1, 6);
            x.step();
            Check.due("the tick waits for player 1", x.look(3), 0);
            Check.yes("off", x.seat(1, false));
            Check.due("the tick that was run still does", x.look(3), 0);
            Check.due("it comes", x.input(1, 1, 0), 0);
            Check.due("confirmed", x.look(3), 1);
            for (int tick : new int[] {2, 3, 17}) {
                Check.due("it comes", x.input(0, tick, 9), 0);
            }
            Check.yes("off", x.seat(0, false));
            Check.yes("on again", x.seat(0, true));
            for (int tick : new int[] {2, 3, 17}) {
                Check.due("it was forgotten", x.input(0, tick, tick), 0);
            }
            x.step();
            Check.due("told", x.shown(0), 2);
            // What was forgotten is no guess, either.
            WorldEngine y = world(0);
            y.input(0, 1, 3);
            y.input(0, 2, 9);
            y.step();
            y.seat(0, false);
            y.step();
            y.seat(0, true);
            y.step();
            Check.due("guessed from tick 1", y.input(0, 3, 3), 0);
            Check.due("tick 2 was without it", y.shown(1), 0);
            // What came up to NOW is kept.
            x.step();
            x.step();
            x.input(0, 4, 8);
            Check.yes("off", x.seat(0, false));
            Check.due("it came", x.input(0, 4, 8), -2);
            Check.yes("on", x.seat(0, true));
            x.step();
            Check.due("guessed from what came", x.input(0, 5, 8), 0);
        });
        s.holds("false if there is none such, or it is so.", () -> {
            WorldEngine x = world(0);
            for (int player : new int[] {-1, 4, 31, 32, MOST, LEAST}) {
                Check.no("none such", x.seat(player, true));
                Check.no("none such", x.seat(player, false));
            }
            Check.no("it is on", x.seat(0, true));
            Check.no("it is not", x.seat(1, false));
            Check.due("as it was", x.look(14), 1);
            x.input(0, 1, 4);
            Check.no("it is on", x.seat(0, true));
            Check.due("nothing is forgotten", x.input(0, 1, 4), -4);
        });
        s.close();
    }

    private static void make() {
        Sentence s = Sentence.promise(10);
        s.holds("A new entity of a prefab in a QUIET world: its NUMBER;", () -> {
            WorldEngine x = world();
            Check.due("a C", x.make(0), 0);
            Check.due("a D", x.make(1), 1);
            Check.due("of no components", x.make(2), 2);
            Check.yes("has", x.has(0, 0) && x.has(1, 1) && !x.has(0, 1) && !x.has(2, 0));
            Check.due("its value", x.get(0, 0, 0), 5);
            x.change(0, 1, 0);
            Check.due("a new number", x.make(0), 257);
            Check.due("as at first", x.get(257, 0, 4), -1);
        });
        s.holds("-1 no such prefab;", () -> {
            WorldEngine x = world();
            for (int prefab : new int[] {-1, 3, 16, MOST, LEAST}) {
                Check.due("prefab " + prefab, x.make(prefab), -1);
            }
            Check.due("entities", x.look(4), 0);
            Check.due("without a text", new WorldEngine(1).make(0), -1);
        });
        s.holds("-2 no place;", () -> {
            WorldEngine x = world();
            for (int i = 0; i < 256; i++) {
                Check.due("make", x.make(i % 3), i);
            }
            Check.due("no place", x.make(0), -2);
            Check.due("entities", x.look(4), 256);
            x.change(0, 77, 0);
            Check.due("a place", x.make(0), 256 + 77);
            Check.due("no place", x.make(2), -2);
        });
        s.holds("-10 not QUIET (ahead of all).", () -> {
            WorldEngine x = world(0);
            x.step();
            Check.due("make", x.make(0), -10);
            Check.due("no such prefab", x.make(9), -10);
            Check.due("entities", x.look(4), 1);
            x.input(0, 1, 0);
            Check.due("quiet", x.make(0), 1);
        });
        s.close();
    }

    private static void change() {
        Sentence s = Sentence.promise(11);
        s.holds("In a QUIET world: how 0: an entity is dropped (component is not looked at), 1: given a component, 2: it is taken: 0;", () -> {
            WorldEngine x = world(0, 0, 1);
            x.set(2, 1, 0, 8);
            Check.due("drop", x.change(0, 0, 99), 0);
            Check.due("drop", x.change(0, 1, LEAST), 0);
            Check.due("entities", x.look(4), 1);
            Check.due("the third", x.entity(0), 2);
            Check.due("give", x.change(1, 2, 0), 0);
            int[] first = {0, 0, 0, 0, -1};
            for (int m = 0; m < 5; m++) {
                Check.due("member " + m, x.get(2, 0, m), first[m]);
            }
            Check.due("take", x.change(2, 2, 1), 0);
            Check.no("taken", x.has(2, 1));
            Check.due("give", x.change(1, 2, 1), 0);
            Check.due("as at first", x.get(2, 1, 0), 0);
            Check.due("a place and a generation", x.make(0), 256);
        });
        s.holds("-1 no such how, entity, component;", () -> {
            WorldEngine x = world(0, 1);
            x.change(0, 1, 0);
            for (int how : new int[] {-1, 3, MOST, LEAST}) {
                Check.due("how " + how, x.change(how, 0, 0), -1);
            }
            for (int how = 0; how < 3; how++) {
                for (int entity : new int[] {-1, 1, 2, 255, 256, 257, 65536, MOST, LEAST}) {
                    Check.due("how " + how + " of entity " + entity, x.change(how, entity, 0), -1);
                }
            }
            for (int component : new int[] {-1, 2, 16, 31, 32, MOST, LEAST}) {
                Check.due("give component " + component, x.change(1, 0, component), -1);
                Check.due("take component " + component, x.change(2, 0, component), -1);
            }
            Check.due("entities", x.look(4), 1);
        });
        s.holds("-2 it has it, has it not;", () -> {
            WorldEngine x = world(0);
            Check.due("it has it", x.change(1, 0, 0), -2);
            Check.due("its member stays", x.get(0, 0, 0), 5);
            Check.due("it has it not", x.change(2, 0, 1), -2);
            Check.due("give", x.change(1, 0, 1), 0);
            Check.due("it has it", x.change(1, 0, 1), -2);
            Check.due("take", x.change(2, 0, 0), 0);
            Check.due("it has it not", x.change(2, 0, 0), -2);
        });
        s.holds("-10 not QUIET (ahead of all).", () -> {
            WorldEngine x = world(0);
            x.step();
            Check.due("drop", x.change(0, 0, 0), -10);
            Check.due("no such how", x.change(9, 0, 0), -10);
            Check.due("it has it", x.change(1, 0, 0), -10);
            Check.due("entities", x.look(4), 1);
            x.input(0, 1, 0);
            Check.due("quiet", x.change(0, 0, 0), 0);
        });
        s.close();
    }

    private static void set() {
        Sentence s = Sentence.promise(12);
        s.holds("In a QUIET world a member becomes v: of a BYTE HELD, of a BOOL v & 1, of a REF -1 if v is below 0: 0;", () -> {
            WorldEngine x = world(0);
            int[][] want = {{0, LEAST, LEAST}, {0, MOST, MOST}, {2, LEAST, LEAST}, {2, MOST, MOST}, {1, 127, 127}, {1, 128, 127}, {1, MOST, 127}, {1, -128, -128},
                {1, -129, -128}, {1, LEAST, -128}, {3, 0, 0}, {3, 1, 1}, {3, 2, 0}, {3, 3, 1}, {3, -1, 1}, {3, -2, 0}, {3, LEAST, 0}, {3, MOST, 1},
                {4, 0, 0}, {4, 12345, 12345}, {4, MOST, MOST}, {4, -1, -1}, {4, -2, -1}, {4, LEAST, -1}};
            for (int[] one : want) {
                Check.due("set", x.set(0, 0, one[0], one[1]), 0);
                Check.due("member " + one[0] + " of " + one[1], x.get(0, 0, one[0]), one[2]);
            }
        });
        s.holds("-1 no such entity, component of it, member;", () -> {
            WorldEngine x = world(0, 1);
            x.change(0, 1, 0);
            int sum = x.sum();
            int[][] none = {{-1, 0, 0}, {1, 1, 0}, {2, 0, 0}, {256, 0, 0}, {255, 0, 0}, {MOST, 0, 0}, {LEAST, 0, 0}, {0, 1, 0}, {0, 2, 0}, {0, -1, 0}, {0, 32, 0},
                {0, MOST, 0}, {0, LEAST, 0}, {0, 0, 5}, {0, 0, -1}, {0, 0, MOST}, {0, 0, LEAST}};
            for (int[] one : none) {
                Check.due("none such", x.set(one[0], one[1], one[2], 3), -1);
            }
            Check.due("nothing has changed", x.sum(), sum);
            // A member ahead of a component's first, or behind its last, is not the neighbour's.
            WorldEngine y = world(0);
            y.change(1, 0, 1);
            int both = y.sum();
            for (int member : new int[] {-1, -2, -5, 2, 3, LEAST, MOST}) {
                Check.due("none such", y.set(0, 1, member, 3), -1);
            }
            Check.due("none such", y.set(0, 0, 5, 3), -1);
            Check.due("nothing has changed", y.sum(), both);
        });
        s.holds("-10 not QUIET (ahead of all).", () -> {
            WorldEngine x = world(0);
            x.step();
            Check.due("set", x.set(0, 0, 0, 1), -10);
            Check.due("none such", x.set(9, 9, 9, 1), -10);
            Check.due("as it was", x.get(0, 0, 0), 5);
            x.input(0, 1, 0);
            Check.due("quiet", x.set(0, 0, 0, 1), 0);
        });
        s.close();
    }
}
