/** Promises 13 to 30, sentence by sentence. */
final class Promises13To30Test {
    private static final int LEAST = -2147483648;
    private static final int MOST = 2147483647;
    // Prefab 0 has a C, 1 a D, 2 both, 3 none.
    private static final String TEXT = "component C { int i; ref r; } component D { int j; } event E(int p, ref q); event N(); "
        + "prefab P { C(i = 5); } prefab Q { D; } prefab Both { C; D; } prefab Z { } "
        + "system S each C without D { show (tick); } system T each D { if D.j == 1 { fail; } } system U after S each C, D { let a = 1 / D.j; } ";

    public static void main(String[] args) {
        get();
        has();
        entity();
        row();
        group();
        shown();
        failure();
        pending();
        look();
        sum();
        save();
        bend();
        cut();
        byteOut();
        load();
        fall();
        stand();
        pace();
        Check.close("Promises13To30Test");
    }

    private static WorldEngine world(int... prefabs) {
        WorldEngine x = Check.world(TEXT, 7, 3);
        for (int prefab : prefabs) {
            Check.yes("make", x.make(prefab) >= 0);
        }
        return x;
    }

    private static void get() {
        Sentence s = Sentence.promise(13);
        s.holds("A member of an entity.", () -> {
            WorldEngine x = world(0, 2);
            Check.due("a prefab's", x.get(0, 0, 0), 5);
            Check.due("none", x.get(0, 0, 1), -1);
            x.set(1, 1, 0, LEAST);
            Check.due("another one's", x.get(1, 1, 0), LEAST);
            Check.due("the first one's stays", x.get(0, 0, 0), 5);
            x.step();
            Check.due("not quiet", x.get(0, 0, 0), 5);
        });
        s.holds("NoSuchElementException: there is none such.", () -> {
            WorldEngine x = world(0, 1);
            x.change(0, 1, 0);
            int[][] none = {{-1, 0, 0}, {1, 1, 0}, {2, 0, 0}, {255, 0, 0}, {256, 0, 0}, {257, 1, 0}, {MOST, 0, 0}, {LEAST, 0, 0},
                {0, 1, 0}, {0, -1, 0}, {0, 2, 0}, {0, 16, 0}, {0, 32, 0}, {0, MOST, 0}, {0, LEAST, 0}, {0, 0, -1}, {0, 0, 2}, {0, 0, MOST}, {0, 0, LEAST}};
            for (int[] one : none) {
                Check.missing("get", () -> x.get(one[0], one[1], one[2]));
            }
            x.change(1, 0, 1);
            for (int member : new int[] {-1, -2, 2, 3, LEAST, MOST}) {
                Check.missing("a neighbour's member", () -> x.get(0, 1, member));
            }
            x.change(2, 0, 0);
            Check.missing("taken", () -> x.get(0, 0, 0));
            Check.missing("without a text", () -> new WorldEngine(1).get(0, 0, 0));
        });
        s.close();
    }

    private static void has() {
        Sentence s = Sentence.promise(14);
        s.holds("Whether an entity has a component (false without such).", () -> {
            WorldEngine x = world(0, 1, 2, 3);
            boolean[][] want = {{true, false}, {false, true}, {true, true}, {false, false}};
            for (int entity = 0; entity < 4; entity++) {
                for (int component = 0; component < 2; component++) {
                    Check.due("has", x.has(entity, component) ? 1 : 0, want[entity][component] ? 1 : 0);
                }
            }
            for (int entity : new int[] {-1, 4, 255, 256, 258, MOST, LEAST}) {
                Check.no("no such entity", x.has(entity, 0));
            }
            for (int component : new int[] {-1, 2, 15, 16, 31, 32, MOST, LEAST}) {
                Check.no("no such component", x.has(2, component));
            }
            x.change(0, 2, 0);
            Check.no("gone", x.has(2, 0));
            Check.no("without a text", new WorldEngine(1).has(0, 0));
        });
        s.close();
    }

    private static void entity() {
        Sentence s = Sentence.promise(15);
        s.holds("The k-th entity by PLACES, from 0 on; NONE.", () -> {
            WorldEngine x = world(0, 1, 2, 3, 0);
            x.change(0, 1, 0);
            x.change(0, 2, 0);
            Check.due("make", x.make(0), 257);
            int[] want = {0, 257, 3, 4, -1};
            for (int k = 0; k < want.length; k++) {
                Check.due("entity " + k, x.entity(k), want[k]);
            }
            for (int k : new int[] {-1, 5, 255, 256, MOST, LEAST}) {
                Check.due("entity " + k, x.entity(k), -1);
            }
            Check.due("without a text", new WorldEngine(1).entity(0), -1);
            WorldEngine full = world();
            for (int i = 0; i < 256; i++) {
                full.make(3);
            }
            Check.due("the last", full.entity(255), 255);
            Check.due("none", full.entity(256), -1);
        });
        s.close();
    }

    private static void row() {
        Sentence s = Sentence.promise(16);
        s.holds("The k-th entity that has all of a system's each and none of its without; NONE.", () -> {
            WorldEngine x = world(0, 1, 2, 3, 0, 2);
            x.change(0, 0, 0);
            Check.due("make", x.make(0), 256);
            int[][] want = {{256, 4, -1}, {1, 2, 5, -1}, {2, 5, -1}};
            for (int system = 0; system < 3; system++) {
                for (int k = 0; k < want[system].length; k++) {
                    Check.due("row " + system + ", " + k, x.row(system, k), want[system][k]);
                }
                for (int k : new int[] {-1, 99, MOST, LEAST}) {
                    Check.due("row " + system + ", " + k, x.row(system, k), -1);
                }
            }
            for (int system : new int[] {-1, 3, 16, MOST, LEAST}) {
                Check.due("no system " + system, x.row(system, 0), -1);
            }
            x.change(2, 2, 1);
            Check.due("it has D no more", x.row(0, 1), 2);
            Check.due("without a text", new WorldEngine(1).row(0, 0), -1);
        });
        s.close();
    }

    private static void group() {
        Sentence s = Sentence.promise(17);
        s.holds("The group of a system, from 0 on; NONE.", () -> {
            WorldEngine x = world();
            Check.due("the first", x.group(0), 0);
            Check.due("joins it", x.group(1), 0);
            Check.due("after one of them", x.group(2), 1);
            for (int system : new int[] {-1, 3, 16, MOST, LEAST}) {
                Check.due("no system " + system, x.group(system), -1);
            }
            Check.due("without a text", new WorldEngine(1).group(0), -1);
            StringBuilder all = new StringBuilder("component C { } system S0 each C { } ");
            for (int i = 1; i < 16; i++) {
                all.append("system S").append(i).append(" after S").append(i - 1).append(" each C { } ");
            }
            WorldEngine y = Check.world(all.toString(), 0, 16);
            Check.due("the last", y.group(15), 15);
            Check.due("groups", y.look(10), 16);
        });
        s.close();
    }

    private static void shown() {
        Sentence s = Sentence.promise(18);
        s.holds("The k-th latest int that was told as SHOWN, of the latest 256.", () -> {
            WorldEngine x = Check.world("component C { int i; } prefab P { C; } system S each C { show (tick * 100 + C.i); show (tick * 100 + C.i + 1); }", 0, 1);
            for (int i = 0; i < 16; i++) {
                x.make(0);
                x.set(i, 0, 0, 2 * i);
            }
            for (int t = 1; t <= 8; t++) {
                Check.tick(x);
            }
            Check.due("told", x.look(8), 256);
            Check.due("the latest", x.shown(0), 831);
            Check.due("the one before", x.shown(1), 830);
            Check.due("the first", x.shown(255), 100);
            Check.tick(x);
            Check.due("told", x.look(8), 288);
            Check.due("the latest", x.shown(0), 931);
            Check.due("the 33rd latest", x.shown(32), 831);
            Check.due("the 256th latest", x.shown(255), 200);
            Check.missing("the 257th", () -> x.shown(256));
            Check.missing("the first", () -> x.shown(287));
        });
        s.holds("NoSuchElementException: there is none such.", () -> {
            WorldEngine x = world(0);
            Check.missing("nothing told", () -> x.shown(0));
            x.step();
            Check.missing("not confirmed", () -> x.shown(0));
            x.input(0, 1, 0);
            Check.due("one", x.shown(0), 1);
            for (int k : new int[] {1, 255, 256, -1, -256, MOST, LEAST}) {
                Check.missing("shown " + k, () -> x.shown(k));
            }
        });
        s.close();
    }

    private static void failure() {
        Sentence s = Sentence.promise(19);
        s.holds("The FAILURE of the latest tick: what 0 its system, 1 the entity, 2 why;", () -> {
            WorldEngine x = world(3, 2);
            x.change(0, 1, 0);
            Check.due("make", x.make(2), 257);
            x.set(257, 1, 0, 1);
            x.step();
            Check.due("system", x.failure(0), 1);
            Check.due("entity", x.failure(1), 257);
            Check.due("why", x.failure(2), 4);
            x.input(0, 1, 0);
            x.set(257, 1, 0, 0);
            Check.due("it stays", x.failure(2), 4);
            x.step();
            Check.due("system", x.failure(0), 2);
            Check.due("entity", x.failure(1), 257);
            Check.due("why", x.failure(2), 1);
        });
        s.holds("NONE without, or for another what.", () -> {
            WorldEngine x = world(2);
            for (int what = 0; what < 3; what++) {
                Check.due("at first", x.failure(what), -1);
            }
            Check.tick(x);
            Check.due("why", x.failure(2), 1);
            for (int what : new int[] {-1, 3, 4, MOST, LEAST}) {
                Check.due("what " + what, x.failure(what), -1);
            }
            x.set(0, 1, 0, 2);
            Check.tick(x);
            for (int what = 0; what < 3; what++) {
                Check.due("without", x.failure(what), -1);
            }
        });
        s.close();
    }

    private static void pending() {
        Sentence s = Sentence.promise(20);
        s.holds("Of PENDING event k: what 0 its event, 1 when it is due, 2 its target, 3 and on its members;", () -> {
            WorldEngine x = events();
            int[][] want = {{0, 4, 0, 77, 0}, {1, 17, -1}};
            for (int k = 0; k < 2; k++) {
                for (int what = 0; what < want[k].length; what++) {
                    Check.due("pending " + k + ", " + what, x.pending(k, what), want[k][what]);
                }
            }
        });
        s.holds("NONE without. (As -1 may be, too.)", () -> {
            WorldEngine x = events();
            for (int k : new int[] {-1, 2, 255, 256, MOST, LEAST}) {
                for (int what = 0; what < 4; what++) {
                    Check.due("pending " + k, x.pending(k, what), -1);
                }
            }
            for (int what : new int[] {-1, -3, 5, 6, 7, 8, MOST, LEAST}) {
                Check.due("what " + what, x.pending(0, what), -1);
            }
            Check.due("no member", x.pending(1, 3), -1);
            Check.due("the target none", x.pending(1, 2), -1);
            Check.due("without a text", new WorldEngine(1).pending(0, 0), -1);
        });
        s.close();
    }

    private static WorldEngine events() {
        WorldEngine x = Check.world("component C { } event E(int p, ref q); event N(); prefab P { C; } "
            + "system S each C { emit E(77, self) to (self) in (3); emit N() to (none) in (16); }", 0, 1);
        x.make(0);
        Check.tick(x);
        return x;
    }

    private static void look() {
        Sentence s = Sentence.promise(21);
        s.holds("What 0: systems, 1 components, 2 NOW, 3 CONFIRMED, 4 entities, 5 PENDING events, 6 FAILS, 7 PASSED, 8 how many were told as SHOWN, "
            + "9 bytes of the OUT, 10 groups, 11 workers that are UP,", () -> {
            WorldEngine x = Check.world("component A { int a; } component B { } component F { } component G { } event N(); prefab P { A; } "
                + "system S each A { show (1); if A.a == 1 { fail; } emit N() to (none) in (16); } "
                + "system T after S each A { drop (none); drop (none); } system U each B { }", 0, 3);
            for (int i = 0; i < 5; i++) {
                x.make(0);
            }
            x.set(3, 0, 0, 1);
            x.save();
            Check.yes("cut", x.cut(1234));
            for (int worker = 1; worker < 7; worker++) {
                x.stand(worker);
            }
            x.fall(6);
            Check.tick(x);
            Check.tick(x);
            x.fall(5);
            x.step();
            x.fall(4);
            int[] want = {3, 4, 3, 2, 5, 12, 3, 30, 8, 1234, 2, 5};
            for (int what = 0; what < want.length; what++) {
                Check.due("look " + what, x.look(what), want[what]);
            }
        });
        s.holds("12 ticks that were run again since text() answered a number of systems last,", () -> {
            WorldEngine x = world(0);
            x.step();
            x.step();
            x.step();
            Check.due("none", x.look(12), 0);
            x.input(0, 2, 1);
            Check.due("two", x.look(12), 2);
            x.input(0, 1, 1);
            Check.due("five", x.look(12), 5);
            Check.feed(x, "?");
            Check.due("a fault", x.text(0), -1);
            Check.due("five still", x.look(12), 5);
            x.input(0, 3, 1);
            Check.due("quiet", x.swap(), 0);
            Check.due("five still", x.look(12), 5);
            x.save();
            Check.due("load", x.load(), 0);
            Check.due("five still", x.look(12), 5);
            Check.due("text", x.text(0), 0);
            Check.due("none since", x.look(12), 0);
        });
        s.holds("13 bytes of the tape, 14 players that are ON as bits;", () -> {
            WorldEngine x = new WorldEngine(1);
            x.feed(0, 0, 0, 0, 0);
            x.end(17);
            Check.due("tape", x.look(13), 17);
            x.seat(3, true);
            Check.due("players", x.look(14), 9);
            x.seat(0, false);
            x.seat(1, true);
            Check.due("players", x.look(14), 10);
        });
        s.holds("NONE for another what.", () -> {
            WorldEngine x = world(0);
            for (int what : new int[] {-1, 15, 16, 255, MOST, LEAST}) {
                Check.due("look " + what, x.look(what), -1);
            }
        });
        s.close();
    }

    private static void sum() {
        Sentence s = Sentence.promise(22);
        s.holds("Of the bytes that the world would be SAVED as: h is 0, then for each h is 31 * h + it (wrapping).", () -> {
            // All but the first bytes are 0 in an empty world; 1302 bytes in all.
            int h = 31 * 87 + 69;
            for (int k = 2; k < 1302; k++) {
                h = 31 * h;
            }
            Check.due("of an empty world", new WorldEngine(1).sum(), h);
            int whole = 0;
            int size = summedWorld().save();
            for (int from = 0; from < size; from += 300) {
                WorldEngine x = summedWorld();
                x.save();
                for (int k = from; k < Math.min(size, from + 300); k++) {
                    whole = 31 * whole + x.byteOut(k);
                }
            }
            WorldEngine x = summedWorld();
            Check.due("with bytes above 127", x.sum(), whole);
            Check.due("the out stays", x.look(9), 0);
            x.save();
            x.cut(5);
            Check.due("whatever the out has", x.sum(), whole);
            Check.due("the out stays", x.look(9), 5);
            x.step();
            Check.yes("not quiet, another tick", x.sum() != whole);
        });
        s.close();
    }

    private static WorldEngine summedWorld() {
        WorldEngine x = world(0, 1, 2);
        x.set(0, 0, 0, -1);
        x.set(1, 1, 0, 0x80ff7f01);
        return x;
    }

    private static void save() {
        Sentence s = Sentence.promise(23);
        s.holds("The world is SAVED: how many bytes the OUT has;", () -> {
            WorldEngine x = new WorldEngine(1);
            Check.due("without a text", x.save(), 2 + 2 + 16 + 256 * 5 + 2);
            Check.due("out", x.look(9), 1302);
            WorldEngine y = world(0, 1, 2, 3);
            int head = 2 + 1 + 3 + 2 + 1 + 3 + 1;
            Check.due("with four entities", y.save(), head + 16 + 256 * 5 + (2 + 8) + (2 + 4) + (2 + 12) + 2 + 2);
            Check.due("out", y.look(9), y.save());
            StringBuilder all = new StringBuilder();
            for (int c = 0; c < 6; c++) {
                all.append("component C").append(c).append(" { int a; int b; int c; int d; int e; int f; int g; int h; } ");
            }
            WorldEngine z = Check.world(all + "event E(int a, int b, int c, int d); prefab P { C0; C1; C2; C3; C4; C5; } "
                + "system S each C0 { emit E(1, 2, 3, 4) to (self) in (9); }", 0, 1);
            for (int i = 0; i < 256; i++) {
                z.make(0);
            }
            Check.tick(z);
            Check.due("the largest", z.save(), 2 + 1 + 54 + 1 + 5 + 16 + 256 * (7 + 192) + 2 + 256 * 25);
            Check.due("it loads", z.load(), 0);
        });
        s.holds("-10 if it is not QUIET.", () -> {
            WorldEngine x = world(0);
            int size = x.save();
            x.cut(7);
            x.step();
            Check.due("not quiet", x.save(), -10);
            Check.due("the out stays", x.look(9), 7);
            x.input(0, 1, 0);
            Check.due("quiet", x.save(), size);
        });
        s.close();
    }

    private static void bend() {
        Sentence s = Sentence.promise(24);
        s.holds("Byte k of the OUT is exclusive-or mask (its lowest eight bits): true;", () -> {
            WorldEngine x = world(0);
            int size = x.save();
            Check.yes("bend", x.bend(0, 0x0f));
            Check.due("bent", x.byteOut(0), 87 ^ 0x0f);
            Check.yes("bend", x.bend(0, 0xffffff00));
            Check.due("as it was", x.byteOut(0), 87 ^ 0x0f);
            Check.yes("bend", x.bend(0, -1));
            Check.due("all bits", x.byteOut(0), 87 ^ 0xf0);
            Check.yes("bend", x.bend(size - 1, 0x180));
            Check.due("the last", x.byteOut(size - 1), 128);
            Check.due("the others stay", x.byteOut(1), 69);
            Check.due("as many", x.look(9), size);
        });
        s.holds("false without such a byte.", () -> {
            WorldEngine x = world(0);
            Check.no("an empty out", x.bend(0, 1));
            int size = x.save();
            for (int k : new int[] {-1, size, size + 1, 59999, 60000, MOST, LEAST}) {
                Check.no("byte " + k, x.bend(k, 1));
            }
            x.cut(3);
            Check.no("cut off", x.bend(3, 1));
            Check.yes("the last", x.bend(2, 1));
        });
        s.close();
    }

    private static void cut() {
        Sentence s = Sentence.promise(25);
        s.holds("The OUT has its first n bytes alone: true;", () -> {
            WorldEngine x = world(0);
            Check.yes("an empty one", x.cut(0));
            int size = x.save();
            Check.yes("as it is", x.cut(size));
            Check.due("out", x.look(9), size);
            Check.yes("two", x.cut(2));
            Check.due("out", x.look(9), 2);
            Check.due("the second", x.byteOut(1), 69);
            Check.due("no third", x.byteOut(2), -1);
            Check.yes("none", x.cut(0));
            Check.due("out", x.look(9), 0);
            Check.due("none", x.byteOut(0), -1);
        });
        s.holds("false if it has less, or n is below 0.", () -> {
            WorldEngine x = world(0);
            Check.no("beyond", x.cut(1));
            int size = x.save();
            for (int n : new int[] {size + 1, -1, MOST, LEAST}) {
                Check.no("cut " + n, x.cut(n));
            }
            Check.due("out", x.look(9), size);
            x.cut(5);
            Check.no("what is cut off", x.cut(6));
        });
        s.close();
    }

    private static void byteOut() {
        Sentence s = Sentence.promise(26);
        s.holds("Byte k of the OUT; NONE.", () -> {
            WorldEngine x = world(0);
            Check.due("an empty out", x.byteOut(0), -1);
            int size = x.save();
            Check.due("the first", x.byteOut(0), 87);
            Check.due("the last", x.byteOut(size - 1), 0);
            x.bend(size - 1, 255);
            Check.due("above 127", x.byteOut(size - 1), 255);
            for (int k : new int[] {-1, size, size + 1, 59999, 60000, MOST, LEAST}) {
                Check.due("byte " + k, x.byteOut(k), -1);
            }
        });
        s.close();
    }

    private static void load() {
        Sentence s = Sentence.promise(27);
        s.holds("The OUT is LOADED: 0: the world is that, CONFIRMED is its TICK, no inputs have come (there is no FAILURE);", () -> {
            WorldEngine x = world(0, 2);
            x.change(0, 0, 0);
            x.input(0, 1, 6);
            x.step();
            x.save();
            int sum = x.sum();
            x.make(0);
            x.set(1, 1, 0, 3);
            for (int t = 2; t <= 20; t++) {
                Check.tick(x);
            }
            x.set(1, 1, 0, 0);
            Check.tick(x);
            Check.due("failure", x.failure(2), 1);
            x.input(0, 25, 8);
            int told = x.look(8);
            Check.due("load", x.load(), 0);
            Check.due("the world", x.sum(), sum);
            Check.due("now", x.look(2), 1);
            Check.due("confirmed", x.look(3), 1);
            Check.due("no failure", x.failure(2), -1);
            Check.due("what was told stays", x.look(8), told);
            for (int t = 2; t <= 17; t++) {
                Check.due("none came for " + t, x.input(0, t, t), 0);
            }
            Check.due("the next generation", x.make(3), 256);
            // All of it is the one that was saved, whatever world is there now.
            WorldEngine z = world(0, 2, 1);
            z.set(1, 1, 0, 7);
            Check.tick(z);
            z.save();
            int before = z.sum();
            Check.feed(z, TEXT);
            Check.due("text", z.text(12345), 3);
            z.make(3);
            z.make(2);
            Check.tick(z);
            Check.due("load", z.load(), 0);
            Check.due("with its seed", z.sum(), before);
            // For none of the ticks that may come.
            WorldEngine later = Check.world("", 0, 0);
            later.save();
            later.bend(7, 60);
            Check.due("load", later.load(), 0);
            for (int t = 61; t <= 76; t++) {
                Check.due("input", later.input(0, t, 1), 0);
            }
            Check.due("load", later.load(), 0);
            for (int t = 61; t <= 76; t++) {
                Check.due("none came for " + t, later.input(0, t, 1), 0);
            }
            // What came before is no guess for what comes now.
            WorldEngine y = Check.world("component C { } prefab P { C; } system S each C { show (input(0)); }", 0, 1);
            y.make(0);
            y.input(0, 1, 6);
            y.step();
            y.save();
            y.load();
            y.step();
            Check.due("0 was guessed", y.input(0, 2, 0), 0);
        });
        s.holds("-1 less the place where it is WRONG;", () -> {
            WorldEngine x = world(0);
            int size = x.save();
            int sum = x.sum();
            x.bend(0, 1);
            Check.due("at 0", x.load(), -1);
            x.bend(0, 1);
            x.bend(1, 1);
            Check.due("at 1", x.load(), -2);
            x.bend(1, 1);
            x.cut(size - 1);
            Check.due("at its length", x.load(), -1 - (size - 1));
            x.cut(0);
            Check.due("an empty out", x.load(), -1);
            Check.due("nothing has changed", x.sum(), sum);
            WorldEngine y = world(0);
            Check.due("never saved", y.load(), -1);
        });
        s.holds("-1000000 if the world is not QUIET, -2000000 without a text (these two ahead of all, as told).", () -> {
            WorldEngine x = world(0);
            x.save();
            x.step();
            Check.due("not quiet", x.load(), -1000000);
            x.bend(0, 1);
            Check.due("not quiet and wrong", x.load(), -1000000);
            x.input(0, 1, 0);
            Check.due("quiet and wrong", x.load(), -1);
            WorldEngine y = new WorldEngine(1);
            Check.due("without a text", y.load(), -2000000);
            y.save();
            Check.due("without a text", y.load(), -2000000);
            y.text(0);
            Check.due("with one", y.load(), 0);
        });
        s.close();
    }

    private static void fall() {
        Sentence s = Sentence.promise(28);
        s.holds("A worker falls in the midst of the next tick that step() runs, behind which it is not UP: true;", () -> {
            WorldEngine x = world(0);
            x.stand(1);
            x.stand(2);
            x.step();
            Check.yes("fall", x.fall(1));
            Check.due("up till then", x.look(11), 3);
            x.step();
            Check.due("down", x.look(11), 2);
            Check.yes("fall", x.fall(2));
            Check.due("run again", x.input(0, 1, 5), 2);
            Check.due("a tick that is run again is not run by step()", x.look(11), 2);
            x.step();
            Check.due("down", x.look(11), 1);
            x.stand(7);
            x.fall(7);
            for (int refused = 0; refused < 3; refused++) {
                x.fall(0);
                Check.due("a step that runs no tick", x.step(), -2);
                Check.due("none has fallen", x.look(11), 2);
            }
            x.stand(0);
            x.step();
            Check.due("down", x.look(11), 1);
        });
        s.holds("false if it is not UP, or is told so already.", () -> {
            WorldEngine x = new WorldEngine(2);
            for (int worker : new int[] {2, 7, 8, -1, 31, 32, 33, MOST, LEAST}) {
                Check.no("fall " + worker, x.fall(worker));
            }
            Check.yes("fall", x.fall(1));
            Check.no("told already", x.fall(1));
            x.text(0);
            Check.no("told already", x.fall(1));
            x.step();
            Check.no("down", x.fall(1));
        });
        s.close();
    }

    private static void stand() {
        Sentence s = Sentence.promise(29);
        s.holds("A worker is UP, and falls no more: true;", () -> {
            WorldEngine x = world(0);
            Check.yes("stand", x.stand(7));
            Check.due("up", x.look(11), 2);
            x.fall(7);
            Check.yes("it falls no more", x.stand(7));
            x.step();
            Check.due("up", x.look(11), 2);
            Check.yes("it may be told again", x.fall(7));
            x.step();
            Check.due("down", x.look(11), 1);
            Check.yes("stand", x.stand(7));
            Check.due("up", x.look(11), 2);
            x.step();
            Check.due("up", x.look(11), 2);
        });
        s.holds("false if there is none such, or it is UP and was not told to fall.", () -> {
            WorldEngine x = new WorldEngine(3);
            for (int worker : new int[] {-1, 8, 9, 31, 32, 35, MOST, LEAST, 0, 1, 2}) {
                Check.no("stand " + worker, x.stand(worker));
            }
            Check.due("up", x.look(11), 3);
            x.fall(2);
            Check.yes("told to fall", x.stand(2));
            Check.no("not any more", x.stand(2));
        });
        s.close();
    }

    private static void pace() {
        Sentence s = Sentence.promise(30);
        s.holds("How workers are paced from now on.", () -> {
            WorldEngine plain = world(0, 1, 2);
            WorldEngine paced = world(0, 1, 2);
            for (int seed : new int[] {0, 1, -1, 12345, MOST, LEAST}) {
                paced.pace(seed);
                Check.due("step", paced.step(), plain.step());
                Check.due("sum", paced.sum(), plain.sum());
            }
            new WorldEngine(1).pace(5);
        });
        s.close();
    }
}
