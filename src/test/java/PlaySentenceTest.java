/** The document's words on play, on what is SAVED and what is LOADED, sentence by sentence: all of III. PLAY. */
final class PlaySentenceTest {
    private static final int LEAST = -2147483648;
    private static final int MOST = 2147483647;
    private static final String PLAY = "component C { int i; } prefab P { C; } system S each C writes C "
        + "{ C.i = C.i * 10 + input(0) + 2 * input(1) + 3 * input(2) + 4 * input(3); show (C.i); }";

    private static final String SAVED = "component A { int i; byte b; } component B { } component C { ref r; bool t; fix f; } "
        + "event E(int p, byte q, bool u, ref w); event N(); prefab P { A; C; } prefab Q { B; } "
        + "system S each A { if A.b == 1 { emit E(258, -2, true, none) to (self) in (2); emit N() to (none) in (16); drop (none); } if A.b == 2 { fail; } }";
    // Where the numbers of the world of saved() stand.
    private static final int COUNTS = 18;
    private static final int PLACES = COUNTS + 16;
    private static final int SECOND = PLACES + 27;
    private static final int THIRD = SECOND + 5;
    private static final int PENDING = THIRD + 27 + 253 * 5;
    private static final int SIZE = PENDING + 2 + 25 + 9;

    public static void main(String[] args) {
        Sentence s = Sentence.section("==== III. PLAY", "## Promise 1:");
        confirmed(s);
        players(s);
        inputs(s);
        again(s);
        workers(s);
        quiet(s);
        saved(s);
        loaded(s);
        wrong(s);
        s.close();
        Check.close("PlaySentenceTest");
    }

    private static WorldEngine play() {
        WorldEngine x = Check.world(PLAY, 0, 1);
        Check.due("make", x.make(0), 0);
        return x;
    }

    private static void steps(WorldEngine x, int count) {
        for (int i = 0; i < count; i++) {
            Check.yes("step", x.step() > 0);
        }
    }

    private static void confirmed(Sentence s) {
        s.holds("NOW is the world's TICK; CONFIRMED a tick up to which all inputs are known, 0 .. 16 before it.", () -> {
            WorldEngine x = play();
            for (int t = 1; t <= 16; t++) {
                Check.due("step", x.step(), t);
                Check.due("now", x.look(2), t);
                Check.due("confirmed", x.look(3), 0);
            }
            Check.due("17 before it can't be", x.step(), -1);
            Check.due("now", x.look(2), 16);
            x.input(0, 1, 0);
            Check.due("confirmed", x.look(3), 1);
            Check.due("step", x.step(), 17);
            for (int t = 2; t <= 17; t++) {
                x.input(0, t, 0);
            }
            Check.due("0 before it", x.look(3), 17);
        });
    }

    private static void players(Sentence s) {
        s.holds("PLAYERS 0 .. 3 are ON or not (at first 0 alone).", () -> {
            WorldEngine x = new WorldEngine(1);
            Check.due("at first", x.look(14), 1);
            for (int player = 1; player < 4; player++) {
                Check.yes("seat", x.seat(player, true));
            }
            Check.due("all", x.look(14), 15);
            Check.no("none such", x.seat(4, true));
            Check.no("none such", x.seat(-1, true));
            Check.yes("off", x.seat(0, false));
            Check.due("but one", x.look(14), 14);
        });
        s.holds("A tick's players are those that are ON when it is run first by step().", () -> {
            WorldEngine x = play();
            x.seat(1, true);
            x.step();
            x.seat(1, false);
            x.seat(2, true);
            x.step();
            x.seat(0, false);
            x.seat(2, false);
            Check.due("tick 1: player 0", x.input(0, 1, 1), 2);
            Check.due("tick 1: not player 2", x.input(2, 1, 1), -3);
            Check.due("tick 2: player 2", x.input(2, 2, 1), 1);
            Check.due("tick 2: not player 1", x.input(1, 2, 1), -3);
            Check.due("not confirmed without player 1", x.look(3), 0);
            // It is run again, and has the players that it had.
            Check.due("tick 1: player 1", x.input(1, 1, 1), 2);
            Check.due("confirmed", x.look(3), 1);
            Check.due("tick 2: player 0, as guessed", x.input(0, 2, 1), 0);
            Check.due("confirmed", x.look(3), 2);
            Check.due("what they did", x.get(0, 0, 0), 34);
        });
    }

    private static void inputs(Sentence s) {
        s.holds("Its inputs: of a player that is not one of its players 0;", () -> {
            WorldEngine x = play();
            x.seat(1, true);
            x.input(0, 1, 1);
            x.input(1, 1, 2);
            x.step();
            Check.due("both", x.get(0, 0, 0), 5);
            x.seat(1, false);
            x.step();
            Check.due("player 1 has left, whatever came before", x.get(0, 0, 0), 51);
            x.seat(0, false);
            x.step();
            Check.due("both have left", x.get(0, 0, 0), 510);
        });
        s.holds("of another one what came for it;", () -> {
            WorldEngine x = play();
            int[] bits = {3, 1, 2, LEAST, -1};
            for (int t = 1; t <= 5; t++) {
                x.input(0, t, bits[t - 1]);
            }
            int value = 0;
            for (int t = 1; t <= 5; t++) {
                x.step();
                value = value * 10 + bits[t - 1];
                Check.due("tick " + t, x.get(0, 0, 0), value);
            }
        });
        s.holds("else what came for the latest tick before it for which something came, 0 if there is none.", () -> {
            WorldEngine x = play();
            steps(x, 2);
            Check.due("nothing came", x.get(0, 0, 0), 0);
            Check.due("it came for tick 3", x.input(0, 3, 5), 0);
            Check.due("it came for tick 6", x.input(0, 6, 7), 0);
            steps(x, 5);
            Check.due("guessed from the latest before", x.get(0, 0, 0), 55577);
            Check.due("tick 1 changes tick 2, too", x.input(0, 1, 4), 7);
            Check.due("and no other one", x.get(0, 0, 0), 4455577);
            // Behind CONFIRMED it counts on.
            x.input(0, 2, 4);
            Check.due("confirmed", x.look(3), 3);
            x.input(0, 4, 5);
            x.input(0, 5, 5);
            x.input(0, 7, 7);
            Check.due("confirmed", x.look(3), 7);
            steps(x, 1);
            Check.due("guessed from a confirmed tick", x.get(0, 0, 0), 44555777);
        });
    }

    private static void again(Sentence s) {
        s.holds("When a tick's inputs prove to be others than it was run with, the world goes back to the tick before it, and all ticks from it on to "
            + "NOW are run again.", () -> {
            WorldEngine x = play();
            steps(x, 8);
            Check.due("as it was run: none", x.input(0, 5, 0), 0);
            Check.due("the last one alone", x.input(0, 8, 1), 1);
            Check.due("from tick 2 on", x.input(0, 2, 3), 7);
            Check.due("now is as it was", x.look(2), 8);
            Check.due("what they did", x.get(0, 0, 0), 3330001);
            Check.due("all of them", x.input(0, 1, 9), 8);
            Check.due("what they did", x.get(0, 0, 0), 93330001);
            Check.due("run again", x.look(12), 16);
            eachPlayersOwn();
            // All that a world has goes back: entities, generations, events, counts, the failure.
            WorldEngine y = Check.world("component C { int i; } event N(); prefab P { C; } system S each C { "
                + "if input(0) == 1 { drop (self); spawn P; emit N() to (none) in (5); } else { drop (none); fail; } }", 0, 1);
            y.make(0);
            steps(y, 3);
            Check.due("guessed", y.look(6), 3);
            Check.due("guessed", y.failure(2), 4);
            Check.due("run again", y.input(0, 2, 1), 2);
            Check.due("fails", y.look(6), 1);
            Check.due("no failure", y.failure(2), -1);
            Check.due("pending", y.look(5), 2);
            Check.due("twice dropped", y.entity(0), 512);
            Check.due("run again", y.input(0, 3, 0), 1);
            Check.due("fails", y.look(6), 2);
            Check.due("pending", y.look(5), 1);
            Check.due("once dropped", y.entity(0), 256);
            allGoesBack();
        });
        s.holds("CONFIRMED becomes one more as long as it is below NOW and of the next tick all players' inputs have come;", () -> {
            WorldEngine x = play();
            x.seat(3, true);
            steps(x, 4);
            for (int t = 4; t >= 2; t--) {
                x.input(0, t, 0);
                x.input(3, t, 0);
            }
            x.input(0, 1, 0);
            Check.due("player 3 is missing in tick 1", x.look(3), 0);
            x.input(0, 5, 0);
            x.input(3, 5, 0);
            x.input(3, 1, 0);
            Check.due("all at once, up to NOW", x.look(3), 4);
            x.step();
            Check.due("as it is run", x.look(3), 5);
            x.step();
            Check.due("not without inputs", x.look(3), 5);
            x.input(3, 6, 0);
            Check.due("not with one of two", x.look(3), 5);
            x.input(0, 6, 0);
            Check.due("with both", x.look(3), 6);
            x.seat(0, false);
            x.seat(3, false);
            x.step();
            Check.due("a tick without players is known", x.look(3), 7);
            WorldEngine y = play();
            steps(y, 16);
            for (int t = 16; t >= 2; t--) {
                y.input(0, t, 0);
            }
            Check.due("none", y.look(3), 0);
            y.input(0, 1, 0);
            Check.due("sixteen at once", y.look(3), 16);
        });
        s.holds("what a tick has SHOWN is told as it is CONFIRMED.", () -> {
            WorldEngine x = play();
            steps(x, 3);
            Check.due("nothing yet", x.look(8), 0);
            x.input(0, 3, 3);
            x.input(0, 2, 2);
            Check.due("nothing yet", x.look(8), 0);
            x.input(0, 1, 1);
            Check.due("three", x.look(8), 3);
            Check.due("first", x.shown(2), 1);
            Check.due("second", x.shown(1), 12);
            Check.due("third", x.shown(0), 123);
            x.input(0, 4, 4);
            Check.due("nothing yet", x.look(8), 3);
            x.step();
            Check.due("four", x.look(8), 4);
            Check.due("fourth", x.shown(0), 1234);
        });
    }

    /** Each player's input is held against what that tick was run with for that player. */
    private static void eachPlayersOwn() {
        WorldEngine x = play();
        for (int player = 1; player < 4; player++) {
            x.seat(player, true);
        }
        for (int player = 0; player < 4; player++) {
            x.input(player, 1, 5 + player);
        }
        steps(x, 4);
        for (int player = 3; player >= 0; player--) {
            Check.due("as guessed for player " + player, x.input(player, 3, 5 + player), 0);
        }
        for (int player = 3; player >= 0; player--) {
            Check.due("not as guessed for player " + player, x.input(player, 4, 5 + (player + 1) % 4), 1);
        }
        // A player that was away for a tick: that one ran with 0, the next one with what came before.
        WorldEngine y = play();
        y.input(0, 1, 7);
        steps(y, 1);
        y.seat(0, false);
        steps(y, 1);
        y.seat(0, true);
        steps(y, 1);
        Check.due("what they did", y.get(0, 0, 0), 707);
        Check.due("as guessed", y.input(0, 3, 7), 0);
        y.seat(0, false);
        steps(y, 1);
        y.seat(0, true);
        steps(y, 2);
        Check.due("not as guessed", y.input(0, 5, 0), 2);
        Check.due("not as guessed", y.input(0, 6, 1), 1);
        Check.due("what they did", y.get(0, 0, 0), 707001);
    }

    /** A world of many entities, members and events, run with guesses and again, is as one that was run with the inputs at once. */
    private static void allGoesBack() {
        String text = "component A { int a; ref b; fix c; bool d; } component B { byte e; byte f; } event E(int p, ref q); event F(int r); prefab P { A; B; } "
            + "system S each A, B writes A, B { A.a = A.a * 3 + input(0); A.c = A.c + fix(A.a); A.d = !A.d; B.e = B.e + input(0); B.f = tick; A.b = self; "
            + "emit E(A.a, self) to (self) in (3); emit F(tick) to (A.b) in (4); hear E { show (E.p); } if A.a % 5 == 4 { take (self) B; drop (none); } "
            + "if A.a % 7 == 6 { fail; } if A.a % 7 == 5 { spawn P(A.a = tick); } } ";
        for (int order = 0; order < 3; order++) {
            comesLate(text, order);
        }
    }

    /** The inputs come the first one first, the last one first, or the ones in the midst last. */
    private static void comesLate(String text, int order) {
        int[][] orders = {{1, 2, 3, 4, 5, 6, 7, 8, 9}, {9, 8, 7, 6, 5, 4, 3, 2, 1}, {1, 2, 9, 8, 3, 7, 6, 5, 4}};
        WorldEngine late = Check.world(text, 3, 1);
        WorldEngine early = Check.world(text, 3, 1);
        for (WorldEngine x : new WorldEngine[] {late, early}) {
            for (int i = 0; i < 12; i++) {
                x.make(0);
                x.set(i, 0, 0, i);
            }
        }
        for (int t = 1; t <= 9; t++) {
            early.input(0, t, t % 4);
            Check.due("step", early.step(), late.step());
        }
        for (int t : orders[order]) {
            Check.yes("it comes", late.input(0, t, t % 4) >= 0);
        }
        Check.due("the world", late.sum(), early.sum());
        for (int what = 2; what <= 8; what++) {
            Check.due("look " + what, late.look(what), early.look(what));
        }
        Check.due("the failure", late.failure(1), early.failure(1));
        int told = early.look(8);
        Check.yes("some were told: " + told, told > 9);
        for (int k = 0; k < told; k++) {
            Check.due("shown " + k, late.shown(k), early.shown(k));
        }
    }

    private static void workers(Sentence s) {
        s.holds("WORKERS 0 .. 7 are UP or not.", () -> {
            WorldEngine x = new WorldEngine(1);
            for (int worker = 1; worker < 8; worker++) {
                Check.yes("stand " + worker, x.stand(worker));
                Check.due("up", x.look(11), worker + 1);
            }
            Check.no("none such", x.stand(8));
            Check.no("none such", x.stand(-1));
            Check.no("none such", x.fall(8));
            Check.no("none such", x.fall(-1));
        });
        s.holds("Whichever they are, however they are paced, nothing that is told hangs on them but what is said of them.", () -> {
            String text = PLAY + " component D { ref q; } event N(); prefab Q { C; D; } system T each D { "
                + "show (draw(1000)); spawn P(C.i = draw(9)); emit N() to (self) in (1); hear N { show (tick); } for o in C { drop (o); } }";
            WorldEngine one = Check.world(text, 5, 2);
            for (int count = 2; count <= 9; count++) {
                WorldEngine other = new WorldEngine(count);
                Check.feed(other, text);
                Check.due("text", other.text(5), 2);
                one = Check.world(text, 5, 2);
                Check.due("make", other.make(1), one.make(1));
                for (int t = 1; t <= 6; t++) {
                    other.pace(count * t * 77777777);
                    other.fall(t);
                    Check.due("step", other.step(), one.step());
                    Check.due("input", other.input(0, (t + 1) / 2, t), one.input(0, (t + 1) / 2, t));
                    Check.due("sum", other.sum(), one.sum());
                    for (int what = 0; what <= 14; what++) {
                        if (what != 11) {
                            Check.due("look " + what, other.look(what), one.look(what));
                        }
                    }
                }
                int told = one.look(8);
                for (int k = 0; k < told; k++) {
                    Check.due("shown " + k, other.shown(k), one.shown(k));
                }
            }
        });
    }

    private static void quiet(Sentence s) {
        s.holds("Some calls are for a QUIET world alone: NOW is CONFIRMED.", () -> {
            WorldEngine x = play();
            Check.due("quiet", x.make(0), 1);
            x.step();
            Check.due("make", x.make(0), -10);
            Check.due("change", x.change(0, 0, 0), -10);
            Check.due("set", x.set(0, 0, 0, 1), -10);
            Check.due("swap", x.swap(), -10);
            Check.due("save", x.save(), -10);
            Check.due("load", x.load(), -1000000);
            x.input(0, 1, 0);
            Check.due("quiet again", x.set(0, 0, 0, 1), 0);
            x.input(0, 3, 0);
            Check.due("quiet with inputs for ticks to come", x.make(0), 2);
        });
        s.holds("Of several answers of a call that may be given the one that is told first is given, but where another one is told to be ahead of all.", () -> {
            WorldEngine x = play();
            steps(x, 16);
            x.fall(0);
            Check.due("step: -1 ahead of -2", x.step(), -1);
            Check.due("input: -1 ahead of -2", x.input(4, 99, 0), -1);
            Check.due("input: -2 ahead of -3", x.input(1, 99, 0), -2);
            x.input(0, 9, 1);
            Check.due("input: -2 ahead of -4", x.input(0, 0, 1), -2);
            Check.due("make: -10 ahead of -1", x.make(9), -10);
            Check.due("change: -10 ahead of -1", x.change(9, 9, 9), -10);
            Check.due("set: -10 ahead of -1", x.set(9, 9, 9, 9), -10);
            Check.feed(x, "?");
            Check.due("swap: -10 ahead of a fault", x.swap(), -10);
            Check.due("load: -1000000 ahead of what is wrong", x.load(), -1000000);
            WorldEngine y = new WorldEngine(1);
            y.fall(0);
            Check.due("step: -2 ahead of -3", y.step(), -2);
            y.save();
            y.cut(0);
            Check.due("load: -2000000 ahead of what is wrong", y.load(), -2000000);
            WorldEngine z = play();
            for (int i = 1; i < 256; i++) {
                z.make(0);
            }
            Check.due("make: -1 ahead of -2", z.make(1), -1);
            Check.due("change: -1 ahead of -2", z.change(1, 0, 1), -1);
        });
    }

    /** Entities at places 0 and 2, one gone from place 1, two events, behind one tick that failed once and passed one over. */
    private static WorldEngine saved() {
        WorldEngine x = Check.world(SAVED, 0x01020304, 1);
        x.make(0);
        x.make(1);
        x.make(0);
        x.change(0, 1, 0);
        x.set(0, 0, 0, 0x11223344);
        x.set(0, 0, 1, 1);
        x.set(0, 2, 0, 777);
        x.set(0, 2, 1, 1);
        x.set(0, 2, 2, -65536);
        x.set(2, 0, 1, 2);
        Check.tick(x);
        Check.due("save", x.save(), SIZE);
        return x;
    }

    private static void bytes(int from, int... want) {
        WorldEngine x = saved();
        for (int i = 0; i < want.length; i++) {
            Check.due("byte " + (from + i), x.byteOut(from + i), want[i]);
        }
    }

    private static void saved(Sentence s) {
        s.holds("SAVED, numbers of more than a byte with the highest one first: 87, 69 (a byte each);", () -> {
            bytes(0, 87, 69);
            bytes(PLACES + 7, 0x11, 0x22, 0x33, 0x44);
        });
        s.holds("how many components (a byte), of each how many members (a byte) and their KINDS (a byte each);", () -> bytes(2, 3, 2, 0, 1, 0, 3, 4, 3, 2));
        s.holds("how many events, of each likewise;", () -> bytes(11, 2, 4, 0, 1, 3, 4, 0));
        s.holds("TICK, SEED, FAILS, PASSED (four bytes each);", () -> {
            bytes(COUNTS, 0, 0, 0, 1, 1, 2, 3, 4, 0, 0, 0, 1, 0, 0, 0, 1);
            WorldEngine x = Check.world("component C { int i; } prefab P { C; } system S each C "
                + "{ drop (none); drop (none); drop (none); if C.i == 1 { fail; } }", -2, 1);
            for (int i = 0; i < 3; i++) {
                x.make(0);
                x.set(i, 0, 0, i == 0 ? 0 : 1);
            }
            Check.tick(x);
            Check.tick(x);
            x.save();
            int[] want = {0, 0, 0, 2, 255, 255, 255, 254, 0, 0, 0, 4, 0, 0, 0, 6};
            for (int i = 0; i < want.length; i++) {
                Check.due("byte " + i + " of the counts", x.byteOut(6 + i), want[i]);
            }
            Check.due("load", x.load(), 0);
            Check.due("fails", x.look(6), 4);
            Check.due("passed", x.look(7), 6);
        });
        s.holds("for each PLACE its GENERATION (four) and 1 or 0 (a byte): whether an entity is there;", () -> {
            bytes(PLACES, 0, 0, 0, 0, 1);
            bytes(SECOND, 0, 0, 0, 1, 0);
            bytes(THIRD, 0, 0, 0, 0, 1);
            bytes(THIRD + 27, 0, 0, 0, 0, 0, 0, 0, 0, 0, 0);
            bytes(PENDING - 5, 0, 0, 0, 0, 0);
        });
        s.holds("if so its components as bits (two bytes, the first one the lowest bit) and their members in order (four each);", () -> {
            bytes(PLACES + 5, 0, 5, 0x11, 0x22, 0x33, 0x44, 0, 0, 0, 1, 0, 0, 3, 9, 0, 0, 0, 1, 255, 255, 0, 0);
            bytes(THIRD + 5, 0, 5, 0, 0, 0, 0, 0, 0, 0, 2, 255, 255, 255, 255, 0, 0, 0, 0, 0, 0, 0, 0);
            StringBuilder all = new StringBuilder();
            for (int c = 0; c < 16; c++) {
                all.append("component C").append(c).append(" { } ");
            }
            WorldEngine x = Check.world(all + "prefab P { C0; C9; C15; }", 0, 0);
            x.make(0);
            x.save();
            int at = 2 + 1 + 16 + 1 + 16 + 5;
            Check.due("the higher bits", x.byteOut(at), 0x82);
            Check.due("the lower bits", x.byteOut(at + 1), 0x01);
        });
        s.holds("how many events are PENDING (two bytes), and of each its event (a byte), when it is due, its target, its members (four each).", () -> {
            bytes(PENDING, 0, 2, 0, 0, 0, 0, 3, 0, 0, 0, 0, 0, 0, 1, 2, 255, 255, 255, 254, 0, 0, 0, 1, 255, 255, 255, 255,
                1, 0, 0, 0, 17, 255, 255, 255, 255, -1);
            full(0);
        });
        s.holds("THE OUT has these bytes.", () -> {
            WorldEngine x = saved();
            Check.due("bytes", x.look(9), SIZE);
            Check.due("the last", x.byteOut(SIZE - 1), 255);
            Check.due("no more", x.byteOut(SIZE), -1);
            x.make(1);
            Check.due("save", x.save(), SIZE + 2);
            Check.due("bytes", x.look(9), SIZE + 2);
        });
    }

    /** A world with 256 PENDING events is saved with that count, and loaded with so many more of them. */
    private static void full(int more) {
        WorldEngine x = Check.world("component C { } event N(); prefab P { C; } system S each C { emit N() to (self) in (1); emit N() to (none) in (2); }", 0, 1);
        for (int i = 0; i < 128; i++) {
            x.make(0);
        }
        Check.tick(x);
        int size = x.save();
        int at = 2 + 2 + 2 + 16 + 256 * 5 + 128 * 2;
        Check.due("size", size, at + 2 + 256 * 9);
        Check.due("the count's first byte", x.byteOut(at), 1);
        Check.due("the count's second byte", x.byteOut(at + 1), 0);
        x.bend(at + 1, more);
        Check.due("load with " + more + " more", x.load(), more == 0 ? 0 : -1 - at);
        Check.due("pending", x.look(5), 256);
    }

    /** The world of saved() with another number among its bytes: loaded, or wrong there. */
    private static WorldEngine loads(boolean good, int at, int bytes, int value) {
        WorldEngine x = saved();
        int sum = x.sum();
        for (int i = 0; i < bytes; i++) {
            x.bend(at + i, x.byteOut(at + i) ^ value >>> 8 * (bytes - 1 - i));
        }
        Check.due(value + " at " + at, x.load(), good ? 0 : -1 - at);
        if (!good) {
            Check.due("the world stays", x.sum(), sum);
        }
        return x;
    }

    private static void loaded(Sentence s) {
        s.holds("LOADED is the OUT when it is such a row: the components, events as those of the text;", () -> {
            int[] heads = {3, 2, 0, 1, 0, 3, 4, 3, 2, 2, 4, 0, 1, 3, 4, 0};
            for (int i = 0; i < heads.length; i++) {
                loads(true, 2 + i, 1, heads[i]);
                loads(false, 2 + i, 1, heads[i] + 1);
                loads(false, 2 + i, 1, heads[i] ^ 128);
            }
            loads(false, 0, 1, 88);
            loads(false, 1, 1, 70);
            // As it is, into a world that was made anew.
            WorldEngine x = saved();
            int sum = x.sum();
            Check.feed(x, SAVED);
            x.text(9);
            x.make(1);
            Check.tick(x);
            Check.due("load", x.load(), 0);
            Check.due("the world", x.sum(), sum);
            int[][] events = {{0, 3, 0, 258, -2, 1, -1}, {1, 17, -1, -1}};
            for (int k = 0; k < 2; k++) {
                for (int what = 0; what < events[k].length; what++) {
                    Check.due("pending " + k + ", " + what, x.pending(k, what), events[k][what]);
                }
            }
            Check.due("a member", x.get(0, 2, 2), -65536);
            Check.due("entities", x.look(4), 2);
        });
        s.holds("TICK, FAILS and PASSED 0 .. 1000000000;", () -> {
            for (int at : new int[] {COUNTS, COUNTS + 8, COUNTS + 12}) {
                loads(false, at, 4, 1000000001);
                loads(false, at, 4, MOST);
                loads(false, at, 4, -1);
                loads(false, at, 4, LEAST);
            }
            loads(true, COUNTS + 8, 4, 0);
            Check.due("fails", loads(true, COUNTS + 8, 4, 1000000000).look(6), 1000000000);
            Check.due("passed", loads(true, COUNTS + 12, 4, 1000000000).look(7), 1000000000);
            for (int seed : new int[] {0, -1, LEAST, MOST}) {
                loads(true, COUNTS + 4, 4, seed);
            }
            WorldEngine x = Check.world("component C { }", 0, 0);
            x.save();
            int[] most = {0x3b, 0x9a, 0xca, 0x00};
            for (int i = 0; i < 4; i++) {
                x.bend(5 + i, most[i]);
            }
            Check.due("the greatest tick", x.load(), 0);
            Check.due("now", x.look(2), 1000000000);
        });
        s.holds("GENERATIONS 0 .. 8000000 (a world that has more can be SAVED, and not LOADED);", () -> {
            loads(true, SECOND, 4, 8000000);
            loads(false, SECOND, 4, 8000001);
            loads(false, SECOND, 4, -1);
            loads(false, SECOND, 4, MOST);
            WorldEngine x = loads(true, PLACES, 4, 8000000);
            Check.due("its number", x.entity(0), 256 * 8000000);
            x.change(0, 256 * 8000000, 0);
            Check.due("saved", x.save(), SIZE - 22);
            Check.due("and not loaded", x.load(), -1 - PLACES);
            Check.due("one more", x.make(0), 256 * 8000001);
        });
        s.holds("a byte 0 or 1;", () -> {
            loads(false, PLACES + 4, 1, 2);
            loads(false, PLACES + 4, 1, 255);
            loads(false, SECOND + 4, 1, 2);
            loads(false, SECOND + 4, 1, 129);
        });
        s.holds("no bits of components that there are not;", () -> {
            Check.yes("the second one has no members", loads(true, PLACES + 5, 2, 7).has(0, 1));
            loads(false, PLACES + 5, 2, 8);
            loads(false, PLACES + 5, 2, 9);
            loads(false, PLACES + 5, 2, 8 | 5);
            loads(false, PLACES + 5, 2, 0x8005);
            loads(false, PLACES + 5, 2, 0x0105);
            loads(false, PLACES + 5, 2, 0xffff);
        });
        s.holds("BYTEs, BOOLs as they can be, REFs and targets not below -1;", () -> {
            int theByte = PLACES + 11;
            int theRef = PLACES + 15;
            int theBool = PLACES + 19;
            int target = PENDING + 7;
            for (int at : new int[] {theByte, PENDING + 15}) {
                loads(true, at, 4, 127);
                loads(true, at, 4, -128);
                loads(false, at, 4, 128);
                loads(false, at, 4, -129);
                loads(false, at, 4, LEAST);
            }
            for (int at : new int[] {theBool, PENDING + 19}) {
                loads(true, at, 4, 0);
                loads(true, at, 4, 1);
                loads(false, at, 4, 2);
                loads(false, at, 4, -1);
            }
            for (int at : new int[] {theRef, target, PENDING + 23}) {
                loads(true, at, 4, -1);
                loads(true, at, 4, MOST);
                loads(false, at, 4, -2);
                loads(false, at, 4, LEAST);
            }
            for (int at : new int[] {PLACES + 7, PLACES + 23, PENDING + 11}) {
                loads(true, at, 4, LEAST);
                loads(true, at, 4, MOST);
            }
        });
        s.holds("at most 256 events;", () -> {
            full(0);
            full(1);
            full(255);
            loads(false, PENDING, 2, 0x0101);
            loads(false, PENDING, 2, 0xffff);
        });
        s.holds("such an event;", () -> {
            loads(false, PENDING + 2, 1, 2);
            loads(false, PENDING + 2, 1, 255);
            loads(false, PENDING + 27, 1, 2);
            // A text without events: the last place's two bytes of components become a count of one.
            WorldEngine x = Check.world("component C { } prefab Z { }", 0, 0);
            for (int i = 0; i < 256; i++) {
                x.make(0);
            }
            int size = x.save();
            x.bend(size - 5, 1);
            x.bend(size - 3, 1);
            Check.due("event 0 of none", x.load(), -1 - (size - 2));
        });
        s.holds("due 1 to 16 ticks behind TICK;", () -> {
            loads(false, PENDING + 3, 4, 1);
            Check.due("one behind it", loads(true, PENDING + 3, 4, 2).pending(0, 1), 2);
            loads(true, PENDING + 3, 4, 17);
            loads(false, PENDING + 3, 4, 18);
            loads(false, PENDING + 3, 4, 0);
            loads(false, PENDING + 3, 4, -1);
            loads(false, PENDING + 3, 4, MOST);
            loads(false, PENDING + 3, 4, LEAST);
        });
        s.holds("and nothing behind it.", () -> {
            // One event less is counted, whose bytes are left.
            WorldEngine x = saved();
            x.bend(PENDING + 1, 3);
            Check.due("the second event's bytes are left", x.load(), -1 - (PENDING + 27));
            WorldEngine y = Check.world("component C { } prefab Z { }", 0, 0);
            for (int i = 0; i < 256; i++) {
                y.make(0);
            }
            int size = y.save();
            y.bend(size - 5, 1);
            Check.due("two bytes are left", y.load(), -1 - (size - 2));
            Check.yes("cut", y.cut(size - 1));
            Check.due("one byte is left", y.load(), -1 - (size - 2));
            Check.yes("cut", y.cut(size - 2));
            Check.due("none is left", y.load(), 0);
        });
    }

    private static void wrong(Sentence s) {
        s.holds("Else it is WRONG at the first byte of the first number that is not so (at its length where one is missing).", () -> {
            WorldEngine x = saved();
            int sum = x.sum();
            x.bend(PENDING + 18, 128);
            Check.due("the first byte of the number", x.load(), -1 - (PENDING + 15));
            x.bend(PLACES + 22, 2);
            Check.due("the first number", x.load(), -1 - (PLACES + 19));
            x.bend(1, 1);
            Check.due("the first number", x.load(), -2);
            Check.due("nothing has changed", x.sum(), sum);
            int[] lengths = {SIZE - 1, SIZE - 4, SIZE - 5, SIZE - 9, PENDING + 2, PENDING + 1, PENDING, PENDING - 1, THIRD + 7, THIRD + 6, THIRD + 5,
                SECOND + 4, SECOND + 2, SECOND, PLACES, COUNTS + 5, COUNTS, 11, 3, 2, 1, 0};
            WorldEngine y = saved();
            for (int length : lengths) {
                Check.yes("cut", y.cut(length));
                Check.due("one is missing", y.load(), -1 - length);
            }
            WorldEngine z = saved();
            z.bend(COUNTS + 12, 128);
            z.cut(COUNTS + 16);
            Check.due("not so ahead of missing", z.load(), -1 - (COUNTS + 12));
        });
    }
}
