/** The document's words on ticks, sentence by sentence: all of II. TICKS. */
final class TickSentenceTest {
    private static final int LEAST = -2147483648;
    private static final int MOST = 2147483647;
    // Prefab 0 has a C, 1 a D, 2 both, 3 none.
    private static final String HEAD = "component C { int i; fix f; bool t; ref r; byte b; } component D { int j; ref q; } "
        + "event E(int p, ref w); event N(); prefab P { C; } prefab Q { D; } prefab Both { C; D; } prefab Z { } ";

    public static void main(String[] args) {
        Sentence s = Sentence.section("==== II. TICKS", "==== III. PLAY");
        world(s);
        groups(s);
        tick(s);
        steps(s);
        failures(s);
        ints(s);
        fixes(s);
        words(s);
        draws(s);
        loops(s);
        commands(s);
        passedOver(s);
        s.close();
        Check.close("TickSentenceTest");
    }

    private static WorldEngine world(String systems, int count, int... prefabs) {
        WorldEngine x = Check.world(HEAD + systems, 0, count);
        for (int prefab : prefabs) {
            Check.yes("make", x.make(prefab) >= 0);
        }
        return x;
    }

    /** One entity of C, behind one tick of a system that writes C and reads D. */
    private static WorldEngine ran(String statements, int why) {
        WorldEngine x = world("system S each C writes C reads D { " + statements + " }", 1, 0);
        Check.tick(x);
        Check.due("why " + statements, x.failure(2), why);
        Check.due("fails " + statements, x.look(6), why < 0 ? 0 : 1);
        return x;
    }

    private static WorldEngine ran(String statements) {
        return ran(statements, -1);
    }

    private static void shows(String e, int want) {
        Check.due(e, ran("show (" + e + ");").shown(0), want);
    }

    /** What an E is worth when C.f has so many 65536ths, and C.i is that. */
    private static int shown(String e, int f, int i) {
        WorldEngine x = world("system S each C writes C reads D { show (" + e + "); }", 1, 0);
        x.set(0, 0, 1, f);
        x.set(0, 0, 0, i);
        Check.tick(x);
        Check.due("why " + e, x.failure(2), -1);
        return x.shown(0);
    }

    /** What was told, the earliest first. */
    private static void told(WorldEngine x, int... want) {
        Check.due("told", x.look(8), want.length);
        for (int i = 0; i < want.length && want.length == x.look(8); i++) {
            Check.due("told " + i, x.shown(want.length - 1 - i), want[i]);
        }
    }

    private static void world(Sentence s) {
        s.holds("THE WORLD: TICK, a SEED, at most 256 ENTITIES,", () -> {
            WorldEngine x = world("", 0);
            for (int i = 0; i < 256; i++) {
                Check.due("make", x.make(0), i);
            }
            Check.due("one more", x.make(0), -2);
            Check.due("entities", x.look(4), 256);
            WorldEngine y = world("system S each D { spawn P; spawn P; spawn P; }", 1, 1);
            for (int i = 0; i < 85; i++) {
                Check.tick(y);
            }
            Check.due("entities", y.look(4), 256);
            Check.due("none was passed over", y.look(7), 0);
            Check.tick(y);
            Check.due("entities", y.look(4), 256);
            Check.due("all were passed over", y.look(7), 3);
        });
        s.holds("each at a PLACE 0 .. 255 with a GENERATION (0 at first): its NUMBER is 256 * GENERATION + PLACE;", () -> {
            WorldEngine x = world("", 0, 0, 0, 0);
            Check.due("the third", x.entity(2), 2);
            for (int generation = 1; generation < 5; generation++) {
                Check.due("drop", x.change(0, 256 * (generation - 1) + 1, 0), 0);
                Check.due("make", x.make(0), 256 * generation + 1);
            }
            for (int i = 3; i < 256; i++) {
                x.make(3);
            }
            Check.due("the last place", x.entity(255), 255);
            x.change(0, 255, 0);
            Check.due("the last place again", x.make(0), 511);
        });
        s.holds("a new one comes to the least free PLACE;", () -> {
            WorldEngine x = world("", 0, 0, 0, 0, 0);
            x.change(0, 3, 0);
            x.change(0, 1, 0);
            Check.due("the least", x.make(0), 257);
            Check.due("the next", x.make(0), 259);
            Check.due("a new one", x.make(0), 4);
            WorldEngine y = world("system S each D { drop (D.q); spawn P; spawn P; }", 1, 0, 1);
            y.set(1, 1, 1, 0);
            Check.tick(y);
            Check.due("spawned at the least", y.entity(0), 256);
            Check.due("spawned at the next", y.entity(2), 2);
        });
        s.holds("when one goes the PLACE's GENERATION becomes one more.", () -> {
            WorldEngine x = world("", 0, 0);
            int before = x.sum();
            x.change(0, 0, 0);
            x.save();
            Check.due("as it goes, ahead of a new one", x.byteOut(x.look(9) - 2 - 256 * 5 + 3), 1);
            Check.yes("another world", x.sum() != before);
            Check.due("the new one", x.make(0), 256);
            Check.no("the old number is of none", x.has(0, 0));
            WorldEngine y = world("system S each C { if tick < 3 { drop (self); spawn P; } }", 1, 0);
            Check.tick(y);
            Check.tick(y);
            Check.due("twice dropped", y.entity(0), 512);
        });
        s.holds("An entity has some components, of each its members (0, false, none at first: none is -1).", () -> {
            WorldEngine x = world("system S each D { give (self) C; }", 1, 0, 1);
            int[] want = {0, 0, 0, -1, 0};
            Check.tick(x);
            for (int m = 0; m < 5; m++) {
                Check.due("of a prefab: member " + m, x.get(0, 0, m), want[m]);
                Check.due("given: member " + m, x.get(1, 0, m), want[m]);
            }
            Check.due("change", x.change(1, 0, 1), 0);
            Check.due("changed: an int", x.get(0, 1, 0), 0);
            Check.due("changed: a ref", x.get(0, 1, 1), -1);
            Check.due("an entity without components", x.make(3), 2);
            Check.no("has none", x.has(2, 0));
            WorldEngine y = Check.world("component A { ref a; ref b; int c; } component B { ref d; } prefab P { A(c = 4); B; }", 0, 0);
            y.make(0);
            int[] refs = {-1, -1, 4};
            for (int m = 0; m < 3; m++) {
                Check.due("the text's first members: " + m, y.get(0, 0, m), refs[m]);
            }
            Check.due("another component's", y.get(0, 1, 0), -1);
        });
        s.holds("PENDING events, at most 256, in the order in which they came: each has its event, the TICK in which it is due, a target, members.", () -> {
            WorldEngine x = world("system S each C { if tick == 1 { emit E(C.i, none) to (self) in (16); } emit N() to (none) in (1 + 15 / tick); }", 1);
            for (int i = 0; i < 150; i++) {
                x.make(0);
                x.set(i, 0, 0, 1000 + i);
            }
            Check.tick(x);
            Check.due("pending", x.look(5), 256);
            Check.due("passed over", x.look(7), 44);
            for (int k = 0; k < 6; k++) {
                Check.due("event " + k, x.pending(k, 0), k % 2);
                Check.due("due " + k, x.pending(k, 1), 17);
                Check.due("target " + k, x.pending(k, 2), k % 2 == 0 ? k / 2 : -1);
                Check.due("member " + k, x.pending(k, 3), k % 2 == 0 ? 1000 + k / 2 : -1);
            }
        });
        s.holds("The counts FAILS and PASSED, and the latest tick's FAILURE.", () -> {
            WorldEngine x = world("system S each C { if tick == 2 { fail; } drop (none); drop (none); }", 1, 0, 0);
            Check.tick(x);
            Check.tick(x);
            Check.due("fails", x.look(6), 2);
            Check.due("passed", x.look(7), 4);
            Check.due("failure", x.failure(2), 4);
            Check.tick(x);
            Check.due("fails", x.look(6), 2);
            Check.due("passed", x.look(7), 8);
            Check.due("no failure", x.failure(2), -1);
        });
    }

    private static void grouped(String systems, int... want) {
        WorldEngine x = world(systems, want.length);
        for (int i = 0; i < want.length; i++) {
            Check.due("group " + i + " of " + systems, x.group(i), want[i]);
        }
        Check.due("groups of " + systems, x.look(10), want[want.length - 1] + 1);
    }

    private static void groups(Sentence s) {
        s.holds("GROUPS: the systems in order; one joins the group of the one ahead, unless it is told to be after one of that group,", () -> {
            grouped("system S each C { }", 0);
            grouped("system S each C { } system T each C { } system U each D { }", 0, 0, 0);
            grouped("system S each C { } system T after S each D { }", 0, 1);
            grouped("system S each C { } system T each D { } system U after S each D { }", 0, 0, 1);
            grouped("system S each C { } system T after S each D { } system U after S each D { }", 0, 1, 1);
            grouped("system S each C { } system T after S each D { } system U after S, T each D { }", 0, 1, 2);
            grouped("system S each C { } system T after T each D { }", 0, 0);
        });
        s.holds("or it writes a component that one of them has in each, writes or reads,", () -> {
            grouped("system S each C { } system T each C writes C { }", 0, 1);
            grouped("system S each C writes C { } system T each C writes C { }", 0, 1);
            grouped("system S each D reads C { } system T each C writes C { }", 0, 1);
            grouped("system S each C { } system T each D { } system U each C writes C { }", 0, 0, 1);
            grouped("system S each D without C { } system T each C writes C { }", 0, 0);
            grouped("system S each C { } system T after S each D { } system U each C writes C { }", 0, 1, 1);
        });
        s.holds("or one of them writes one that it has there: then a group begins with it.", () -> {
            grouped("system S each C writes C { } system T each C { }", 0, 1);
            grouped("system S each C writes C { } system T each D reads C { }", 0, 1);
            grouped("system S each C writes C { } system T each D { } system U each D reads C { }", 0, 0, 1);
            grouped("system S each C writes C { } system T each D without C { }", 0, 0);
            grouped("system S each C writes C { } system T each C { } system U each C { }", 0, 1, 1);
        });
    }

    private static void tick(Sentence s) {
        s.holds("A TICK: TICK becomes one more, there is no FAILURE.", () -> {
            WorldEngine x = world("system S each C { show (tick); if tick == 1 { fail; } }", 1, 0);
            Check.tick(x);
            Check.due("tick", x.look(2), 1);
            Check.due("failure", x.failure(2), 4);
            Check.tick(x);
            Check.due("tick", x.look(2), 2);
            Check.due("no failure", x.failure(2), -1);
            told(x, 2);
        });
        s.holds("DUE are the PENDING events of this TICK.", () -> {
            WorldEngine x = world("system S each C { hear E { show (E.p * 10 + tick); } if tick == 1 { emit E(1, none) to (self) in (2); "
                + "emit E(2, none) to (self) in (1); emit E(3, none) to (self) in (16); } }", 1, 0);
            Check.tick(x);
            told(x);
            Check.tick(x);
            told(x, 22);
            Check.tick(x);
            told(x, 22, 13);
            for (int t = 4; t <= 16; t++) {
                Check.tick(x);
            }
            told(x, 22, 13);
            Check.tick(x);
            told(x, 22, 13, 47);
        });
        s.holds("Then the groups in order: for each of its systems all ROWS are run, one for each entity that has all of its each and none of its "
            + "without (by the world as the group finds it), by PLACES.", () -> {
            WorldEngine x = world("system S each C without D { show (100); give (self) D; } system T each C without D { show (200); } "
                + "system U after S each C without D { show (300); } system V each C, D { show (400); } ", 4, 0, 2, 0, 1);
            x.change(0, 0, 0);
            Check.due("make", x.make(0), 256);
            Check.tick(x);
            told(x, 100, 100, 200, 200, 400, 400, 400);
            WorldEngine y = world("system T each C { show (self); }", 1, 0, 0, 0);
            y.change(0, 1, 0);
            y.make(0);
            Check.tick(y);
            told(y, 0, 257, 2);
            WorldEngine z = world("system S each D { drop (D.q); spawn P; } system T each C { show (self); }", 2, 1, 0);
            z.set(0, 1, 1, 1);
            Check.tick(z);
            told(z, 1);
            Check.tick(z);
            told(z, 1, 257);
        });
        s.holds("What a ROW gives to members of its own entity is so for itself at once, for all others behind the group (no other ROW of the group "
            + "can ask for it).", () -> {
            WorldEngine x = world("system S each C writes C { C.i = C.i + 5; show (C.i); C.i = C.i * 2; show (C.i); } system T each C { show (C.i + 1); } "
                + "system U each D reads C { for o in C { show (o.C.i + 2); } }", 3, 0, 1);
            Check.due("groups", x.look(10), 2);
            Check.tick(x);
            told(x, 5, 10, 11, 12);
        });
        s.holds("Then what they gave is there, and by systems, PLACES: a ROW that FAILED has done nothing: FAILS is one more (the first of the tick is "
            + "its FAILURE: system, entity as the group found it, why);", () -> {
            WorldEngine x = world("system S each C writes C { C.i = 7; C.r = self; show (1); spawn P; drop (self); fail; }", 1, 0);
            Check.tick(x);
            Check.due("a member stays", x.get(0, 0, 0), 0);
            Check.due("a member stays", x.get(0, 0, 3), -1);
            Check.due("no command acted", x.look(4), 1);
            told(x);
            Check.due("fails", x.look(6), 1);
            WorldEngine y = world("system S each D { drop (D.q); } system T each C { let a = 1 / C.i; } system U each C { fail; }", 3, 1, 0, 0);
            y.change(0, 1, 0);
            Check.due("make", y.make(0), 257);
            y.set(0, 1, 1, 257);
            Check.tick(y);
            Check.due("fails", y.look(6), 4);
            Check.due("system", y.failure(0), 1);
            Check.due("entity, which is gone by now", y.failure(1), 257);
            Check.due("why", y.failure(2), 1);
            Check.no("it is gone", y.has(257, 0));
            // Rows that fail in the midst of a sum leave nothing for those behind them.
            WorldEngine w = world("system S each C { show (1 + (2 + (3 + 4 / C.i))); }", 1);
            for (int i = 0; i < 200; i++) {
                w.make(0);
            }
            w.set(199, 0, 0, 2);
            Check.tick(w);
            Check.due("fails", w.look(6), 199);
            Check.due("the last one's", w.shown(0), 8);
            // What was given is there ahead of the commands, whichever row stands first.
            WorldEngine z = world("system S each D { put (D.q) C.i = 1; } system T each C writes C { C.i = 2; }", 2, 1, 0);
            z.set(0, 1, 1, 1);
            Check.due("one group", z.look(10), 1);
            Check.tick(z);
            Check.due("the put is later", z.get(1, 0, 0), 1);
        });
        s.holds("of others the COMMANDS act, in their order.", () -> {
            WorldEngine x = world("system S each C { show (1); if C.i == 1 { fail; } show (2); } system T each C { show (3); show (4); }", 2, 0, 0, 0);
            x.set(1, 0, 0, 1);
            Check.tick(x);
            told(x, 1, 2, 1, 2, 3, 4, 3, 4, 3, 4);
            WorldEngine y = world("system S each C { put (self) C.i = 1; put (self) C.i = 2; take (self) C; give (self) C; put (self) C.b = 3; }", 1, 0);
            Check.tick(y);
            Check.due("given anew", y.get(0, 0, 0), 0);
            Check.due("put behind it", y.get(0, 0, 4), 3);
            Check.due("none was passed over", y.look(7), 0);
        });
        s.holds("Behind the groups the DUE events are gone.", () -> {
            WorldEngine x = world("system S each C { if tick == 1 { emit N() to (self) in (1); emit N() to (none) in (1); emit N() to (self) in (2); } } "
                + "system T after S each C { hear N { show (tick); } } system U after T each C { hear N { show (10 * tick); } }", 3, 0);
            Check.tick(x);
            Check.due("pending", x.look(5), 3);
            Check.tick(x);
            Check.due("pending", x.look(5), 1);
            Check.due("due", x.pending(0, 1), 3);
            told(x, 2, 20);
            Check.tick(x);
            Check.due("pending", x.look(5), 0);
            told(x, 2, 20, 3, 30);
        });
    }

    private static void steps(Sentence s) {
        s.holds("A ROW has 120 STEPS: one for each STATEMENT as it begins,", () -> {
            ran("let a = 1; " + "a = 2; ".repeat(119));
            ran("let a = 1; " + "a = 2; ".repeat(120), 5);
            ran("let a = 1; " + "a = 2; ".repeat(119) + "a = 1 / 0;", 5);
            ran("let a = 1; " + "a = 2; ".repeat(117) + "if true { a = 2; }");
            ran("let a = 1; " + "a = 2; ".repeat(117) + "if true { a = 2; a = 2; }", 5);
            ran("let a = 1; " + "a = 2; ".repeat(118) + "if false { a = 2; }");
            ran("let a = 1; " + "a = 2; ".repeat(117) + "if false { } else { a = 2; a = 2; }", 5);
        });
        s.holds("and for each turn of a while, for, hear as that begins (of while: behind its E).", () -> {
            ran("let a = 0; while a < 59 { a = a + 1; }");
            ran("let a = 0; while a < 59 { a = a + 1; } a = 0;", 5);
            ran("let a = 1; " + "a = 2; ".repeat(118) + "while false { }");
            ran("let a = 1; " + "a = 2; ".repeat(118) + "while true { }", 5);
            ran("let a = 1; " + "a = 2; ".repeat(118) + "while 1 / 0 == 0 { }", 1);
            turns("for o in D { }", 118, -1);
            turns("for o in D { }", 119, 5);
            turns("for o in D { } show (1);", 117, -1);
            turns("for o in D { } show (1);", 118, 5);
            turns("hear N { }", 118, -1);
            turns("hear N { }", 119, 5);
        });
    }

    /** A loop, within an if, with so many turns: others that have a D, and emit to it. */
    private static void turns(String loop, int others, int why) {
        WorldEngine x = world("system T each D { emit N() to (D.q) in (1); } system S each C { if tick == 2 { " + loop + " } }", 2, 0);
        for (int i = 1; i <= others; i++) {
            x.make(1);
            x.set(i, 1, 1, 0);
        }
        Check.tick(x);
        Check.tick(x);
        Check.due(loop + " of " + others, x.failure(2), why);
    }

    private static void failures(Sentence s) {
        s.holds("It FAILS, and ends, by: 1 / or % by 0;", () -> {
            ran("show (1); let a = 1 / C.i; fail;", 1);
            ran("let a = 1 % C.i; fail;", 1);
            ran("let a = 1.5 / C.f; fail;", 1);
            ran("let a = 0 / 0;", 1);
            ran("let a = 0.0 / 0.0;", 1);
            ran("let a = 0 / 1; let b = 0 % 1; let c = 0.0 / 1.0;");
        });
        s.holds("2 root of what is below 0;", () -> {
            ran("let a = root(0.0);");
            WorldEngine x = world("system S each C { let a = root(C.f); fail; }", 1, 0);
            x.set(0, 0, 1, -1);
            Check.tick(x);
            Check.due("the nearest below", x.failure(2), 2);
            ran("let a = root(-32767.9999); fail;", 2);
        });
        s.holds("3 NAME . NAME . NAME of an entity that is not alive, or has not the component;", () -> {
            ran("let o = none; let a = o.D.j; fail;", 3);
            ran("let o = self; let a = o.D.j; fail;", 3);
            ran("let o = self; let a = 1 < 0 && o.D.j == 0;");
            WorldEngine x = world("system S each C reads D { let o = C.r; show (o.D.j); }", 1, 0, 1, 3);
            x.set(0, 0, 3, 1);
            x.set(1, 1, 0, 9);
            Check.tick(x);
            told(x, 9);
            for (int other : new int[] {257, 2, 3, 255, 256, MOST, -1, LEAST}) {
                x.set(0, 0, 3, other);
                Check.tick(x);
                Check.due("of " + other, x.failure(2), 3);
            }
            // One that goes, or comes to have it, in the same group is as the group finds it.
            WorldEngine y = world("system R each D { drop (self); } system S each C reads D { let o = C.r; show (o.D.j); } "
                + "system T after S each C reads D { let o = C.r; show (o.D.j); }", 3, 0, 1);
            y.set(0, 0, 3, 1);
            Check.tick(y);
            told(y, 0);
            Check.due("the later group's fails", y.failure(0), 2);
            Check.due("by", y.failure(2), 3);
        });
        s.holds("4 fail;", () -> {
            ran("fail; let a = 1 / 0;", 4);
            ran("if false { fail; }");
        });
        s.holds("5 a 121st STEP;", () -> {
            ran("while true { }", 5);
            ran("let a = 1; " + "a = 2; ".repeat(118) + "fail;", 4);
            ran("let a = 1; " + "a = 2; ".repeat(119) + "fail;", 5);
        });
        s.holds("6 a 9th COMMAND (behind its Es);", () -> {
            told(ran("show (1); ".repeat(8)), 1, 1, 1, 1, 1, 1, 1, 1);
            told(ran("show (1); ".repeat(9), 6));
            for (String command : new String[] {"spawn P;", "drop (none);", "give (self) D;", "take (self) C;", "put (self) C.i = 1;",
                "emit N() to (self) in (1);", "show (1);"}) {
                ran("show (1); ".repeat(7) + command);
                ran("show (1); ".repeat(8) + command, 6);
            }
            for (String command : new String[] {"spawn P(C.i = 1 / 0);", "put (self) C.i = 1 / 0;", "emit E(1 / 0, none) to (self) in (1);",
                "emit N() to (self) in (1 / 0);", "show (1 / 0);"}) {
                ran("show (1); ".repeat(8) + command, 1);
            }
        });
        s.holds("7 draw of what is below 1;", () -> {
            ran("let a = draw(1);");
            ran("let a = draw(0); fail;", 7);
            ran("let a = draw(-1); fail;", 7);
            ran("let a = draw(-2147483647 - 1); fail;", 7);
        });
        s.holds("8 in of what is not 1 .. 16 (ahead of 6).", () -> {
            ran("emit N() to (self) in (1);");
            ran("emit N() to (self) in (16);");
            ran("emit N() to (self) in (0); fail;", 8);
            ran("emit N() to (self) in (17); fail;", 8);
            ran("emit N() to (self) in (-1); fail;", 8);
            ran("emit N() to (self) in (2147483647); fail;", 8);
            ran("emit N() to (self) in (-2147483647 - 1); fail;", 8);
            ran("show (1); ".repeat(8) + "emit N() to (self) in (0);", 8);
            ran("show (1); ".repeat(8) + "emit N() to (self) in (17);", 8);
        });
    }

    private static void ints(Sentence s) {
        s.holds("INTs wrap;", () -> {
            shows("2147483647 + 1", LEAST);
            shows("-2147483647 - 2", MOST);
            shows("65536 * 65536 + 65536 * 32768", LEAST);
            shows("46341 * 46341", 46341 * 46341);
            shows("-(-2147483647 - 1)", LEAST);
        });
        s.holds("/ and % cut towards 0 (the least by -1: itself, 0).", () -> {
            shows("7 / 2", 3);
            shows("-7 / 2", -3);
            shows("7 / -2", -3);
            shows("-7 / -2", 3);
            shows("7 % 2", 1);
            shows("-7 % 2", -1);
            shows("7 % -2", 1);
            shows("-7 % -2", -1);
            shows("(-2147483647 - 1) / -1", LEAST);
            shows("(-2147483647 - 1) % -1", 0);
        });
    }

    private static void fixes(Sentence s) {
        s.holds("FIXES are HELD:", () -> {
            Check.due("+", shown("C.f + 0.0001", MOST - 6, 0), MOST);
            Check.due("+", shown("C.f + 0.0001", MOST, 0), MOST);
            Check.due("-", shown("C.f - 0.0001", LEAST + 8, 0), LEAST + 1);
            Check.due("-", shown("C.f - 0.0001", LEAST, 0), LEAST);
            Check.due("*", shown("C.f * 2.0", 1 << 30, 0), MOST);
            Check.due("*", shown("C.f * 2.0", -(1 << 30), 0), LEAST);
            Check.due("*", shown("C.f * 2.0", -(1 << 30) - 1, 0), LEAST);
            Check.due("*", shown("C.f * -1.0", LEAST, 0), MOST);
            Check.due("/", shown("C.f / 0.5", 1 << 30, 0), MOST);
            Check.due("/", shown("C.f / -0.5", 1 << 30, 0), LEAST);
            Check.due("/", shown("C.f / 0.0001", LEAST, 0), LEAST);
            Check.due("/", shown("C.f / -1.0", LEAST, 0), MOST);
        });
        s.holds("* is the exact product through 65536, / the exact quotient, both rounded to the nearest, of two the even one;", () -> {
            int[][] halves = {{1, 0}, {3, 2}, {5, 2}, {7, 4}, {-1, 0}, {-3, -2}, {-5, -2}, {-7, -4}, {2, 1}, {-2, -1}};
            for (int[] one : halves) {
                Check.due("half of " + one[0], shown("C.f * 0.5", one[0], 0), one[1]);
                Check.due("half of " + one[0], shown("0.5 * C.f", one[0], 0), one[1]);
                Check.due("through two of " + one[0], shown("C.f / 2.0", one[0], 0), one[1]);
                Check.due("through minus two of " + one[0], shown("C.f / -2.0", one[0], 0), -one[1]);
            }
            Check.due("a quarter is below the half", shown("C.f * 0.25", 5, 0), 1);
            Check.due("three quarters are above it", shown("C.f * 0.25", 7, 0), 2);
            Check.due("below 0 likewise", shown("C.f * 0.25", -5, 0), -1);
            Check.due("below 0 likewise", shown("C.f * 0.25", -7, 0), -2);
            Check.due("a third", shown("C.f / 3.0", 65536, 0), 21845);
            Check.due("two thirds", shown("C.f / 3.0", 131072, 0), 43691);
            Check.due("minus two thirds", shown("C.f / -3.0", 131072, 0), -43691);
            Check.due("exact", shown("C.f * C.f", 46340 * 181, 0), (int) Math.rint((46340L * 181) * (46340L * 181) / 65536.0));
            Check.due("by itself", shown("C.f / C.f", LEAST, 0), 65536);
        });
        s.holds("- of the least the greatest.", () -> {
            Check.due("the least", shown("-C.f", LEAST, 0), MOST);
            Check.due("one more", shown("-C.f", LEAST + 1, 0), MOST);
            Check.due("two more", shown("-C.f", LEAST + 2, 0), MOST - 1);
            Check.due("the greatest", shown("-C.f", MOST, 0), LEAST + 1);
        });
        s.holds("int is rounded down,", () -> {
            int[][] want = {{0, 0}, {65535, 0}, {65536, 1}, {-1, -1}, {-65536, -1}, {-65537, -2}, {MOST, 32767}, {LEAST, -32768}};
            for (int[] one : want) {
                Check.due("int of " + one[0], shown("int(C.f)", one[0], 0), one[1]);
            }
        });
        s.holds("fix HELD,", () -> {
            int[][] want = {{0, 0}, {-1, -65536}, {32767, 32767 << 16}, {32768, MOST}, {65536, MOST}, {MOST, MOST}, {-32768, LEAST}, {-32769, LEAST}, {LEAST, LEAST}};
            for (int[] one : want) {
                Check.due("fix of " + one[0], shown("fix(C.i)", 0, one[0]), one[1]);
            }
        });
        s.holds("root the greatest FIX whose square is not above the E's.", () -> {
            for (int e : new int[] {0, 1, 2, 3, 4, 65535, 65536, 65537, 131072, 262143, 262144, 262145, 1 << 30, MOST - 1, MOST}) {
                long root = shown("root(C.f)", e, 0);
                Check.yes("root of " + e + " is " + root, root >= 0 && root * root <= e * 65536L && (root + 1) * (root + 1) > e * 65536L);
            }
        });
        s.holds("A FIX NUMBER is the nearest FIX.", () -> {
            for (String number : new String[] {"0.0000", "0.0001", "0.0002", "0.0003", "0.5", "0.9999", "0.3333", "0.6667", "1.1", "12.34", "3.141", "32767.9999"}) {
                shows(number, (int) Math.round(Double.parseDouble(number) * 65536));
            }
            shows("-0.0001", -7);
        });
    }

    private static void words(Sentence s) {
        s.holds("&& and || leave out what is behind them when what is ahead decides.", () -> {
            ran("if false && 1 / 0 == 0 { }");
            ran("if true || 1 / 0 == 0 { }");
            ran("if true && 1 / 0 == 0 { }", 1);
            ran("if false || 1 / 0 == 0 { }", 1);
            ran("if false && true && 1 / 0 == 0 || false { }");
            ran("if true || false || 1 / 0 == 0 { }");
            ran("if (false || true) && 1 / 0 == 0 { }", 1);
            WorldEngine x = Check.world("component C { } event E(int a, bool b, bool c, int d); prefab P { C; } "
                + "system S each C { emit E(5, true || 1 / 0 == 0, false && 1 / 0 == 0, 6) to (self) in (1 + 1); }", 0, 1);
            x.make(0);
            Check.tick(x);
            int[] want = {0, 3, 0, 5, 1, 0, 6};
            for (int what = 0; what < want.length; what++) {
                Check.due("what is beside it: " + what, x.pending(0, what), want[what]);
            }
            told(ran("if false && draw(5) == 9 || true { show (draw(1000)); }"), drawn(0, 1000, 1, 0, 0, 0));
        });
        s.holds("tick is TICK; self the own NUMBER;", () -> {
            WorldEngine x = world("system S each C { show (tick); show (self); }", 1, 0);
            x.change(0, 0, 0);
            x.make(0);
            Check.tick(x);
            Check.tick(x);
            told(x, 1, 256, 2, 256);
        });
        s.holds("input(p) the bits of player p in this tick, 0 for none such;", () -> {
            WorldEngine x = world("system S each C { show (input(0)); show (input(3)); show (input(1)); show (input(4)); show (input(-1)); "
                + "show (input(2147483647)); show (input(-2147483647 - 1)); }", 1, 0);
            x.seat(3, true);
            x.input(0, 1, -5);
            x.input(3, 1, LEAST);
            x.input(0, 2, 6);
            x.input(3, 2, 7);
            x.step();
            x.step();
            told(x, -5, LEAST, 0, 0, 0, 0, 0, 6, 7, 0, 0, 0, 0, 0);
        });
        s.holds("alive, has by the world as the group finds it (false of none).", () -> {
            WorldEngine x = world("system R each D { drop (self); } system S each C { show (alive(C.r)); show (has(C.r, D)); show (has(C.r, C)); } "
                + "system T after R each C { show (alive(C.r)); show (has(C.r, D)); }", 3, 0, 1);
            x.set(0, 0, 3, 1);
            Check.tick(x);
            told(x, 1, 1, 0, 0, 0);
            for (int other : new int[] {257, 1, 255, 256, 65535, MOST, -1}) {
                x.set(0, 0, 3, other);
                Check.tick(x);
                Check.due("alive of " + other, x.shown(4) + x.shown(3) + x.shown(2) + x.shown(1) + x.shown(0), 0);
            }
            shows("alive(none)", 0);
            shows("has(none, C)", 0);
            shows("alive(self)", 1);
            shows("has(self, C)", 1);
            WorldEngine y = world("system R each C { give (self) D; spawn Q; } system S each C { show (has(self, D)); }", 2, 0);
            Check.tick(y);
            told(y, 0);
        });
    }

    private static int stirred(int seed, int... withs) {
        int x = seed;
        for (int with : withs) {
            x = (x ^ with) * -1640531535;
            x = x ^ x >>> 15;
        }
        return x;
    }

    private static int drawn(int seed, int n, int... withs) {
        return (stirred(seed, withs) & MOST) % n;
    }

    private static void draws(Sentence s) {
        s.holds("draw(n): x is the SEED; then for TICK, the own NUMBER, the system's number, and how many draws this ROW had before, one after the "
            + "other: x is x exclusive-or that, times -1640531535 (wrapping), and then x exclusive-or (x >>> 15).", () -> {
            for (int seed : new int[] {0, 1, -1, 12345, MOST, LEAST}) {
                WorldEngine x = Check.world(HEAD + "system R each D { show (draw(7)); } system S each C { show (draw(2147483647)); show (draw(2147483647)); }", seed, 2);
                x.make(3);
                x.make(0);
                x.change(0, 1, 0);
                Check.due("make", x.make(0), 257);
                x.make(0);
                Check.tick(x);
                Check.tick(x);
                int[] want = new int[8];
                for (int i = 0; i < 8; i++) {
                    want[i] = drawn(seed, MOST, 1 + i / 4, i / 2 % 2 == 0 ? 257 : 2, 1, i % 2);
                }
                told(x, want);
            }
        });
        s.holds("It is (x & 2147483647) % n.", () -> {
            int below = 0;
            for (int seed = 0; seed < 12; seed++) {
                int x = stirred(seed, 1, 0, 0, 0);
                below += x < 0 ? 1 : 0;
                WorldEngine y = Check.world(HEAD + "system S each C { show (draw(1000)); show (draw(1)); }", seed, 1);
                y.make(0);
                Check.tick(y);
                told(y, (x & MOST) % 1000, 0);
            }
            Check.yes("some of them were below 0: " + below, below > 0 && below < 12);
        });
    }

    private static void loops(Sentence s) {
        s.holds("for: the entities that have that component (by the world as the group finds it), but the own one, by PLACES;", () -> {
            WorldEngine x = world("system R each D { take (self) C; spawn P; } system S each C without D { for o in C { show (o); } } ", 2, 0, 2, 3, 1, 0);
            x.change(0, 4, 0);
            Check.due("make", x.make(0), 260);
            x.change(0, 2, 0);
            Check.tick(x);
            told(x, 1, 260, 0, 1);
            told(ran("for o in C { show (1); }"));
            WorldEngine y = world("system S each D { for o in C { for u in C { show (o); show (u); } } }", 1, 1, 0, 0);
            Check.tick(y);
            told(y, 1, 1, 1, 2, 2, 1, 2, 2);
            // Its LOCAL is its own, whatever LOCALS and loops stand around it.
            WorldEngine z = world("system S each D { let a = 7; let b = 8; for o in C { let c = 9; for u in C { if o != u { show (o); } } "
                + "show (c); } show (a); show (b); }", 1, 1, 0, 0);
            Check.tick(z);
            told(z, 1, 9, 2, 9, 7, 8);
            WorldEngine v = world("system S each D { let n = 0; while n < 2 { n = n + 1; for o in C { show (n); show (o); } } }", 1, 1, 0, 0);
            Check.tick(v);
            told(v, 1, 1, 1, 2, 2, 1, 2, 2);
            WorldEngine w = world("system S each D { hear N { for o in C { hear N { for u in C { show (o); show (u); } } } } "
                + "if tick == 1 { emit N() to (self) in (1); } }", 1, 1, 0, 0);
            Check.tick(w);
            Check.tick(w);
            told(w, 1, 1, 1, 2, 2, 1, 2, 2);
        });
        s.holds("near(R), R worked out once: of these those whose first two members are both at most R (below 0: none) away from its own ones, the "
            + "distances reckoned exactly.", () -> {
            near("2.0", 0, 0, 131072, -131072, true);
            near("2.0", 0, 0, 131073, 0, false);
            near("2.0", 0, 0, 0, -131073, false);
            near("2.0", 65536, 65536, -65536, 196608, true);
            near("0.0", 5, 5, 5, 5, true);
            near("0.0", 5, 5, 5, 6, false);
            near("-0.0001", 5, 5, 5, 5, false);
            near("-32767.9999", MOST, 0, LEAST, 0, false);
            near("32767.9999", MOST, 0, LEAST, 0, false);
            near("32767.9999", LEAST, 0, MOST, 0, false);
            near("32767.9999", 0, 0, 32767 * 65536 + 65529, 0, true);
            near("fix(32768)", 0, 0, MOST, -MOST, true);
            near("fix(32768)", 0, 0, 0, LEAST, false);
            near("1.0", 65536, 655360, 131072, 655360, true);
            near("1.0", 65536, 655360, 131072, 65536, false);
            near("1.0", 655360, 65536, 655360, 131073, false);
            near("1.0", 655360, 65536, 655360, 0, true);
            // Each near has its own R, whatever LOCALS and loops stand around it.
            WorldEngine y = Check.world("component A { fix x; fix y; int m; } prefab P { A; } system S each A reads A { if A.m == 1 { "
                + "let a = 0; let b = 0; while b < 1 { b = b + 1; for o in A near (5.0) { a = a + 1; for u in A near (1.0) { a = a + 10; "
                + "for v in A near (9.0) { a = a + 100; } } } } for o in A near (1.0) { b = b + 1; } show (a); show (b); } }", 0, 1);
            for (int i = 0; i < 4; i++) {
                y.make(0);
            }
            y.set(0, 0, 2, 1);
            y.set(1, 0, 0, 65536);
            y.set(2, 0, 0, 5 * 65536);
            y.set(3, 0, 1, 9 * 65536);
            Check.tick(y);
            Check.due("no failure", y.failure(2), -1);
            told(y, 622, 2);
            // Worked out once: it draws once, and the draw within is the second one.
            WorldEngine x = Check.world("component A { fix x; fix y; } prefab P { A; } "
                + "system S each A reads A { if draw(1) == 0 { for o in A near (fix(draw(1))) { show (draw(1000)); } } }", 0, 1);
            x.make(0);
            x.make(0);
            x.make(0);
            Check.tick(x);
            for (int e = 0; e < 3; e++) {
                Check.due("the third draw", x.shown(5 - 2 * e), drawn(0, 1000, 1, e, 0, 2));
                Check.due("the fourth draw", x.shown(4 - 2 * e), drawn(0, 1000, 1, e, 0, 3));
            }
        });
        s.holds("hear: the DUE events of that name whose target is self, in their order;", () -> {
            WorldEngine x = world("system S each C { if tick == 1 { emit E(C.i, none) to (C.r) in (2); emit N() to (C.r) in (2); emit E(C.i + 1, none) to (self) in (1); "
                + "emit E(C.i + 2, none) to (C.r) in (2); } hear E { show (1000 * tick + E.p); } hear N { show (1); } }", 1, 0, 0);
            for (int i = 0; i < 2; i++) {
                x.set(i, 0, 0, 10 * i);
                x.set(i, 0, 3, 1);
            }
            Check.tick(x);
            told(x);
            Check.tick(x);
            told(x, 2001, 2011);
            Check.tick(x);
            told(x, 2001, 2011, 3000, 3002, 3010, 3012, 1, 1);
            // Members of an event that is not the first one.
            WorldEngine z = Check.world("component C { } event A(int a, int b, int c, int d); event B(int a, int b, int c, int d); event D(int a, int b, int c); "
                + "prefab P { C; } system S each C { if tick == 1 { emit D(5, 6, 7) to (self) in (1); emit B(1, 2, 3, 4) to (self) in (1); } "
                + "hear B { show (B.a); show (B.d); } hear D { show (D.a); show (D.b); show (D.c); } }", 0, 1);
            z.make(0);
            Check.tick(z);
            Check.tick(z);
            told(z, 1, 4, 5, 6, 7);
            // One that is new at the same place is not the target.
            WorldEngine y = world("system S each C { if tick == 1 { emit N() to (self) in (2); } if tick == 2 { drop (self); spawn P; } hear N { show (1); } }", 1, 0);
            for (int t = 0; t < 3; t++) {
                Check.tick(y);
            }
            told(y);
        });
        s.holds("NAME . NAME is of the one at hand (of the innermost such hear).", () -> {
            WorldEngine x = world("system S each C { if tick == 1 { emit E(1, none) to (self) in (1); emit E(2, none) to (self) in (1); emit N() to (self) in (1); } "
                + "hear E { show (E.p); hear E { show (10 + E.p); } show (20 + E.p); hear N { show (30 + E.p); } } }", 1, 0);
            Check.tick(x);
            Check.tick(x);
            Check.due("a ninth and tenth command", x.failure(2), 6);
            WorldEngine deep = world("system S each C writes C { if tick == 1 { emit E(7, none) to (self) in (1); emit N() to (self) in (1); } "
                + "hear N { ".repeat(19) + "hear E { C.i = C.i + E.p; " + "} ".repeat(20) + "}", 1, 0);
            Check.tick(deep);
            Check.tick(deep);
            Check.due("twenty hears within one another", deep.get(0, 0, 0), 7);
            WorldEngine y = world("system S each C { if tick == 1 { emit E(1, none) to (self) in (1); emit E(2, none) to (self) in (1); emit N() to (self) in (1); } "
                + "hear E { let a = E.p; hear E { show (10 * a + E.p); } hear N { show (30 + E.p); } } }", 1, 0);
            Check.tick(y);
            Check.tick(y);
            told(y, 11, 12, 31, 21, 22, 32);
        });
    }

    private static void near(String r, int x0, int y0, int x1, int y1, boolean met) {
        for (int own = 0; own < 3; own += 2) {
            WorldEngine x = Check.world("component Z { int i; int k; } component A { fix x; fix y; int m; } prefab Q { Z; } prefab P { Z; A; } "
                + "system S each A reads A { if A.m == 1 { for o in A near (" + r + ") { show (o); } } }", 0, 1);
            x.make(1);
            x.make(0);
            x.make(1);
            int other = 2 - own;
            x.set(own, 1, 2, 1);
            x.set(own, 1, 0, x0);
            x.set(own, 1, 1, y0);
            x.set(other, 1, 0, x1);
            x.set(other, 1, 1, y1);
            Check.tick(x);
            Check.due("near " + r + " of " + x1 + ", " + y1, x.look(8), met ? 1 : 0);
            Check.due("it is the other", met ? x.shown(0) : other, other);
        }
    }

    private static void commands(Sentence s) {
        s.holds("COMMANDS: spawn: a new entity with the prefab's components and values, but those that are told (of two for one member the later).", () -> {
            WorldEngine x = Check.world("component C { int a; int b; int c; ref d; } component D { } component F { } prefab P { C(a = 1, b = 2); F; } "
                + "system S each D { spawn P(C.b = 5, C.c = 6, C.b = 7); } prefab Q { D; }", 0, 1);
            x.make(1);
            Check.tick(x);
            Check.yes("components", x.has(1, 0) && !x.has(1, 1) && x.has(1, 2));
            int[] want = {1, 7, 6, -1};
            for (int m = 0; m < 4; m++) {
                Check.due("member " + m, x.get(1, 0, m), want[m]);
            }
            // Four may be told, at the least place, too.
            WorldEngine y = world("system S each C { drop (self); spawn Both(C.i = 1, C.b = 2, D.j = 3, D.q = self); }", 1, 0);
            Check.tick(y);
            Check.due("its number", y.entity(0), 256);
            Check.due("the first", y.get(256, 0, 0), 1);
            Check.due("the second", y.get(256, 0, 4), 2);
            Check.due("the third", y.get(256, 1, 0), 3);
            Check.due("the fourth", y.get(256, 1, 1), 0);
            Check.due("passed", y.look(7), 0);
        });
        s.holds("drop: it is gone.", () -> {
            WorldEngine x = world("system S each C { drop (C.r); }", 1, 0, 1);
            x.set(0, 0, 3, 1);
            Check.tick(x);
            Check.due("entities", x.look(4), 1);
            Check.no("has", x.has(1, 1));
            Check.due("passed", x.look(7), 0);
        });
        s.holds("give: it has the component, its members as at first;", () -> {
            WorldEngine x = world("system S each C { if tick == 1 { put (self) D.j = 5; put (self) D.q = self; take (self) D; give (self) D; } }", 1, 2);
            Check.tick(x);
            Check.yes("has", x.has(0, 1));
            Check.due("int", x.get(0, 1, 0), 0);
            Check.due("ref", x.get(0, 1, 1), -1);
            Check.due("passed", x.look(7), 0);
            WorldEngine y = world("system S each D { take (self) C; give (self) C; }", 1, 2, 2);
            for (int entity = 0; entity < 2; entity++) {
                y.set(entity, 0, 4, 3);
                y.set(entity, 1, 0, 9);
                y.set(entity, 1, 1, 1);
            }
            Check.tick(y);
            for (int entity = 0; entity < 2; entity++) {
                Check.due("a member of it", y.get(entity, 0, 4), 0);
                Check.due("another component's stay", y.get(entity, 1, 0), 9);
                Check.due("another component's stay", y.get(entity, 1, 1), 1);
            }
        });
        s.holds("take: it has it no more.", () -> {
            WorldEngine x = world("system S each C { take (self) D; }", 1, 2);
            Check.tick(x);
            Check.no("taken", x.has(0, 1));
            Check.yes("the other stays", x.has(0, 0));
        });
        s.holds("put: the member becomes that.", () -> {
            WorldEngine x = world("system S each D { put (D.q) C.i = 5; put (D.q) C.f = 1.5; put (D.q) C.t = true; put (D.q) C.r = self; put (D.q) C.b = -7; }", 1, 1, 0);
            x.set(0, 1, 1, 1);
            Check.tick(x);
            int[] want = {5, 98304, 1, 0, -7};
            for (int m = 0; m < 5; m++) {
                Check.due("member " + m, x.get(1, 0, m), want[m]);
            }
        });
        s.holds("emit: an event is PENDING, due so many ticks behind this one.", () -> {
            WorldEngine x = world("system S each C { emit E(tick, self) to (none) in (16); }", 1, 0);
            Check.tick(x);
            Check.tick(x);
            int[][] want = {{0, 17, -1, 1, 0}, {0, 18, -1, 2, 0}};
            for (int k = 0; k < 2; k++) {
                for (int what = 0; what < 5; what++) {
                    Check.due("pending " + k + " " + what, x.pending(k, what), want[k][what]);
                }
            }
        });
        s.holds("show: its int is SHOWN by this tick.", () -> told(ran("show (5); show (-0.5); show (true); show (self); show (none);"), 5, -32768, 1, 0, -1));
    }

    private static void passedOver(Sentence s) {
        s.holds("What can't be is passed over, and PASSED is one more: no place for a new entity;", () -> {
            WorldEngine x = world("system S each C { spawn Z; spawn Z; show (1); }", 1, 0);
            for (int i = 1; i < 255; i++) {
                x.make(3);
            }
            Check.tick(x);
            Check.due("entities", x.look(4), 256);
            Check.due("passed", x.look(7), 1);
            Check.due("no fail", x.look(6), 0);
            told(x, 1);
        });
        s.holds("drop, give, take, put of none that is alive;", () -> {
            for (int other : new int[] {-1, 1, 256, 255, MOST}) {
                WorldEngine x = world("system S each C { drop (C.r); give (C.r) D; take (C.r) C; put (C.r) C.i = 1; }", 1, 0);
                x.set(0, 0, 3, other);
                Check.tick(x);
                Check.due("passed of " + other, x.look(7), 4);
                Check.due("entities", x.look(4), 1);
                Check.due("member", x.get(0, 0, 0), 0);
                Check.no("has", x.has(0, 1));
            }
            Check.due("dropped just before", ran("drop (self); drop (self); give (self) D; take (self) C; put (self) C.i = 1;").look(7), 4);
        });
        s.holds("give of what it has;", () -> {
            WorldEngine x = world("system S each C { give (self) C; give (self) D; give (self) D; }", 1, 0);
            x.set(0, 0, 0, 9);
            Check.tick(x);
            Check.due("passed", x.look(7), 2);
            Check.due("its members stay", x.get(0, 0, 0), 9);
        });
        s.holds("take, put of what it has not;", () -> {
            WorldEngine x = world("system S each C { take (self) D; put (self) D.j = 5; take (self) C; take (self) C; put (self) C.i = 5; }", 1, 0);
            Check.tick(x);
            Check.due("passed", x.look(7), 4);
            Check.no("has", x.has(0, 1));
            Check.no("has", x.has(0, 0));
            Check.due("a put alone", ran("put (self) D.j = 5;").look(7), 1);
            Check.due("a take alone", ran("take (self) D;").look(7), 1);
            WorldEngine y = world("system S each D { put (self) C.i = 5; put (self) D.j = 6; } system T each D { take (self) C; }", 2, 1);
            Check.tick(y);
            Check.due("passed", y.look(7), 2);
            Check.due("what it has", y.get(0, 1, 0), 6);
        });
        s.holds("emit with 256 PENDING (those that are DUE count);", () -> {
            WorldEngine x = world("system S each C { if tick == 1 { emit N() to (self) in (1); emit N() to (self) in (1); emit N() to (self) in (2); } "
                + "if tick == 2 { emit E(1, self) to (self) in (1); } }", 1);
            for (int i = 0; i < 85; i++) {
                x.make(0);
            }
            Check.tick(x);
            Check.due("pending", x.look(5), 255);
            Check.due("passed", x.look(7), 0);
            Check.tick(x);
            Check.due("one had room, and 170 are gone", x.look(5), 86);
            Check.due("the others are passed over", x.look(7), 84);
            Check.due("the one", x.pending(85, 0), 0);
            Check.due("the one", x.pending(85, 2), 0);
        });
        s.holds("the 33rd show of a tick.", () -> {
            WorldEngine x = world("system S each C { show (1); show (2); show (3); show (4); } system T after S each C { show (C.i + 5); }", 2, 0, 0, 0, 0, 0, 0, 0);
            for (int i = 0; i < 7; i++) {
                x.set(i, 0, 0, i);
            }
            Check.tick(x);
            Check.due("told", x.look(8), 32);
            Check.due("passed", x.look(7), 3);
            Check.due("the 32nd", x.shown(0), 8);
            Check.tick(x);
            Check.due("each tick has its own", x.look(8), 64);
            Check.due("passed", x.look(7), 6);
        });
    }
}
