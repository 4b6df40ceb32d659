/** The document's words on FAULTS, LOCALS and KINDS of E, sentence by sentence; @ marks the place that is due. */
final class FaultSentenceTest {
    private static final String HEAD = "component At { fix x; fix y; } component Go { fix f; byte b; bool t; ref r; int i; } component Tag { } "
        + "event Hit(int p, ref w); event Nil(); prefab Ball { At; Go; } system Old each At { } ";
    private static final String SYSTEM = HEAD + "system S each At, Go writes Go reads At { ";

    public static void main(String[] args) {
        Sentence s = Sentence.section("FAULTS.", "==== II. TICKS");
        order(s);
        kind1(s);
        kind2(s);
        tooMany(s);
        nested(s);
        kind3(s);
        kind4(s);
        kind5(s);
        kinds5(s);
        locals(s);
        namesInSums(s);
        signs(s);
        wants(s);
        s.close();
        Check.close("FaultSentenceTest");
    }

    private static void good(String statements) {
        Check.good(2, SYSTEM + statements + " }");
    }

    private static void bad(int kind, String marked) {
        Check.bad(kind, SYSTEM + marked + " }");
    }

    private static String many(int count, String pattern) {
        StringBuilder b = new StringBuilder();
        for (int i = 1; i <= count; i++) {
            b.append(pattern.replace("$", "" + i));
        }
        return b.toString();
    }

    private static void order(Sentence s) {
        s.holds("The text is read from left to right, and each thing is looked at as soon as it is through; the first fault that is "
            + "met counts, of one place the least kind.", () -> {
            Check.bad(4, "prefab P { @X; } ?");
            Check.bad(1, "component C { } @? component C { }");
            Check.bad(3, "component C { } component @C ?");
            bad(4, "show (@q ?");
            bad(5, "show (true @+ 1 ?");
            bad(4, "show (true + @q);");
            // 2 and 3, 2 and 4, 2 and 5 of one NAME or NUMBER.
            Check.bad(2, many(12, "component D$ { } ") + "system S each D1 { " + many(12, "let a$ = 1; ") + "let @a1 = 1; }");
            Check.bad(2, many(9, "component D$ { } ") + "prefab P { " + many(8, "D$; ") + "@D1; }");
            Check.bad(2, many(9, "component D$ { } ") + "prefab P { " + many(8, "D$; ") + "@X; }");
            Check.bad(2, "component C { bool t; } prefab P { C(t = @2147483648); }");
            bad(2, "show (@abcdefghijklm);");
        });
        s.holds("(What must be a NAME, a NUMBER is looked at for 2 only where one may stand.", () -> {
            Check.bad(1, "@abcdefghijklm");
            Check.bad(1, "@2147483648");
            Check.bad(1, "component C { } @abcdefghijklm C;");
            bad(1, "show (1 @abcdefghijklm);");
            bad(1, "show (1 @2147483648);");
            bad(1, "show @2147483648;");
            bad(1, "let @2147483648 = 1;");
            bad(1, "if true @abcdefghijklm");
            bad(2, "show (@2147483648);");
            bad(2, "let @abcdefghijklm = 1;");
        });
        s.holds("A declared NAME is told once it is through, a system's own, too;", () -> {
            Check.bad(5, "component C { } prefab P { @P; }");
            Check.bad(5, "component C { } system S each @S { }");
            Check.good(1, "component C { } system S after S each C { }");
            bad(3, "let @S = 1;");
            bad(5, "show (@S);");
            Check.good(0, "component C { int C; }");
        });
        s.holds("what stands behind an E is looked at first only as far as whether it goes on.)", () -> {
            bad(5, "if @1 ?");
            bad(5, "if @1 show (1);");
            bad(5, "drop (@1;");
            bad(5, "Go.i = @true }");
            bad(5, "show (has(@1 ?");
            bad(5, "spawn Ball(At.x = @1 ?");
            // It goes on here, so that its kind is another one.
            good("if 1 == 1 { } Go.t = 1 < 2;");
        });
        s.holds("Its kind, and its place (that of a token's first byte):", () -> {
            WorldEngine x = new WorldEngine(1);
            Check.feed(x, "  component  Abc { } component\tAbc { }");
            Check.due("kind", x.text(0), -3);
            Check.due("kind", x.fault(1), 3);
            Check.due("place", x.fault(0), 31);
            Check.bad(1, "@component1 C { }");
            bad(5, "show (1 @== true);");
            bad(2, "show (  @00002147483648);");
        });
    }

    private static void kind1(Sentence s) {
        s.holds("1 a token that can't stand there (at its end the text's length; a byte that begins no token is one, too).", () -> {
            Check.bad(1, "component@");
            Check.bad(1, "component C {@");
            Check.bad(1, "component C { # and so on@");
            Check.bad(1, "component C {  \n\t @");
            Check.bad(1, "@}");
            Check.bad(1, "@1.5");
            Check.bad(1, "@?");
            Check.bad(1, "component C { @\u0000 }");
            Check.bad(1, "component C { @\u00ff }");
            Check.bad(1, "component C@& { }");
            bad(1, "@component D { }");
        });
    }

    private static void kind2(Sentence s) {
        s.holds("2 (at it) a NAME of more than 12 signs,", () -> {
            Check.good(0, "component abcdefghijkl { int Abcdefghij12; }");
            Check.bad(2, "component @abcdefghijklm { }");
            Check.bad(2, "component C { int @Abcdefghij123; }");
            Check.bad(2, "event @abcdefghijklm();");
            Check.bad(2, "event E(int @abcdefghijklm);");
            Check.bad(2, "prefab @abcdefghijklm { }");
            Check.bad(2, "prefab P { @abcdefghijklm; }");
            Check.bad(2, "component C { int a; } prefab P { C(@abcdefghijklm = 1); }");
            Check.bad(2, "system @abcdefghijklm");
            Check.bad(2, "system S after @abcdefghijklm");
            Check.bad(2, "system S each @abcdefghijklm");
            bad(2, "@abcdefghijklm = 1;");
            bad(2, "Go.@abcdefghijklm = 1;");
            bad(2, "for @abcdefghijklm in At { }");
            bad(2, "for o in @abcdefghijklm { }");
            bad(2, "hear @abcdefghijklm { }");
            bad(2, "spawn @abcdefghijklm;");
            bad(2, "spawn Ball(@abcdefghijklm.x = 1.0);");
            bad(2, "give (self) @abcdefghijklm;");
            bad(2, "show (At.@abcdefghijklm);");
            bad(2, "show (has(self, @abcdefghijklm));");
            bad(2, "emit @abcdefghijklm() to (self) in (1);");
        });
        s.holds("a NUMBER above 2147483647,", () -> {
            good("let a = 2147483647; let b = -2147483647;");
            bad(2, "let a = @2147483648;");
            bad(2, "let a = -@2147483648;");
            bad(2, "let a = @99999999999999999999999999;");
            bad(2, "let a = @4294967297;");
            bad(2, "let a = @18446744073709551617;");
            Check.good(0, "component C { int i; } prefab P { C(i = -2147483647); }");
            Check.bad(2, "component C { int i; } prefab P { C(i = -@2147483648); }");
        });
        s.holds("a FIX NUMBER whose whole part is above 32767 or that has more than 4 digits behind its point;", () -> {
            good("let a = 32767.9999; let b = 00032767.0; let c = 0.0000;");
            bad(2, "let a = @32768.0;");
            bad(2, "let a = -@32768.0;");
            bad(2, "let a = @98304.5;");
            bad(2, "let a = @4294967296.5;");
            bad(2, "let a = @18446744073709551616.5;");
            bad(2, "let a = @0.00000;");
            bad(2, "let a = @1.50000;");
            Check.good(0, "component C { fix f; } prefab P { C(f = -32767.9999); }");
            Check.bad(2, "component C { fix f; } prefab P { C(f = -@32768.0); }");
            Check.bad(2, "component C { fix f; } prefab P { C(f = @0.12345); }");
        });
    }

    private static void tooMany(Sentence s) {
        s.holds("and what is one too many: the 17th component, prefab, system, the 9th event (at that word),", () -> {
            Check.good(0, many(16, "component C$ { } "));
            Check.bad(2, many(16, "component C$ { } ") + "@component");
            Check.good(0, many(16, "prefab P$ { } "));
            Check.bad(2, many(16, "prefab P$ { } ") + "@prefab");
            Check.good(16, "component C { } " + many(16, "system S$ each C { } "));
            Check.bad(2, "component C { } " + many(16, "system S$ each C { } ") + "@system");
            Check.good(0, many(8, "event E$(); "));
            Check.bad(2, many(8, "event E$(); ") + "@event");
            // All of them in one text, and as many LOCALS in its last system.
            String all = many(16, "component C$ { } ") + many(8, "event E$(); ") + many(16, "prefab P$ { } ") + many(15, "system S$ each C1 { } ");
            Check.good(16, all + "system S16 after S15 each C16 { " + many(12, "let a$ = 1; ") + "show (a1 + a12); spawn P16; hear E8 { } }");
            Check.bad(3, all + "system S16 each C16 { let @S16 = 1; }");
        });
        String eight = many(8, "int m$; ");
        String all = many(6, "component C$ { " + eight + "} ");
        s.holds("a 9th member of a component,", () -> {
            Check.good(0, "component C { " + eight + "}");
            Check.bad(2, "component C { " + eight + "@int m9; }");
            Check.bad(2, "component C { " + eight + "@int m1; }");
            Check.bad(1, "component C { " + eight + "@m9; }");
        });
        s.holds("a 49th of all,", () -> {
            Check.good(0, all + "component D { } event E(int a, int b, int c, int d); event F(int a);");
            Check.bad(2, all + "component D { @int a; }");
            Check.good(0, "event E(int a, int b, int c, int d); " + all);
        });
        s.holds("a 5th of an event (at its KIND),", () -> {
            Check.good(0, "event E(int a, int b, int c, int d);");
            Check.good(0, many(8, "event E$(int a, int b, int c, int d); "));
            Check.bad(2, "event E(int a, int b, int c, int d, @int e);");
            Check.bad(1, "event E(int a, int b, int c, int d, @);");
        });
        String nine = many(9, "component C$ { int a; } ");
        s.holds("a 9th component of a prefab, a 5th NAME . NAME = E of a spawn (at its NAME),", () -> {
            Check.good(0, nine + "prefab P { " + many(8, "C$; ") + "}");
            Check.bad(2, nine + "prefab P { " + many(8, "C$; ") + "@C9; }");
            Check.bad(1, nine + "prefab P { " + many(8, "C$; ") + "@9; }");
            good("spawn Ball(At.x = 1.0, At.x = 2.0, At.y = 3.0, At.y = 4.0);");
            bad(2, "spawn Ball(At.x = 1.0, At.x = 2.0, At.y = 3.0, At.y = 4.0, @At.x = 5.0);");
            bad(2, "spawn Ball(At.x = 1.0, At.x = 2.0, At.y = 3.0, At.y = 4.0, @X.x = 5.0);");
            bad(1, "spawn Ball(At.x = 1.0, At.x = 2.0, At.y = 3.0, At.y = 4.0, @);");
        });
        s.holds("a 13th LOCAL that is visible (at its NAME),", () -> {
            good(many(12, "let a$ = 1; "));
            bad(2, many(12, "let a$ = 1; ") + "let @b = 1;");
            bad(2, many(12, "let a$ = 1; ") + "for @o in At { }");
            good(many(11, "let a$ = 1; ") + "for o in At { }");
            bad(2, many(11, "let a$ = 1; ") + "for o in At { let @b = 1; }");
            bad(2, many(10, "let a$ = 1; ") + "for o in At { for u in At { for @v in At { } } }");
            good(many(11, "let a$ = 1; ") + "if true { let b = 1; } if true { let b = 1; } for o in At { } let c = 1;");
            Check.good(3, SYSTEM + many(12, "let a$ = 1; ") + "} system T each At { " + many(12, "let a$ = 1; ") + "}");
        });
    }

    private static void nested(Sentence s) {
        s.holds("what would be the 21st within one another, in a system, of: BLOCKS (but the system's own, at the { ), ( ) of all sorts "
            + "(at the ( ), - and ! with their UNARY.", () -> {
            good("if true { ".repeat(20) + "}".repeat(20));
            bad(2, "if true { ".repeat(20) + "if true @{");
            bad(2, "if true { ".repeat(20) + "while true @{");
            bad(2, "if true { ".repeat(20) + "for o in At @{");
            bad(2, "if true { ".repeat(20) + "hear Hit @{");
            bad(2, "if true { ".repeat(19) + "if true { } else { if true @{");
            bad(1, "if true { ".repeat(20) + "if true @;");
            bad(1, "if true { ".repeat(20) + "hear Hit @;");
            bad(1, "if true { ".repeat(20) + "show @1;");
            good("hear Nil { ".repeat(19) + "hear Hit { let a = Hit.p; " + "}".repeat(20));
            good("hear Hit { " + "hear Nil { ".repeat(19) + "let a = Hit.p; " + "}".repeat(20));
            good("show " + "(".repeat(20) + "1" + ")".repeat(20) + ";");
            bad(2, "show " + "(".repeat(20) + "@(1");
            good("show (" + "-".repeat(19) + "1); show (" + "!".repeat(19) + "true);");
            bad(2, "show (" + "-".repeat(19) + "@-1");
            bad(2, "show (" + "!".repeat(19) + "@!true");
            bad(2, "let a = " + "-".repeat(20) + "@-1");
            bad(2, "let a = " + "-".repeat(20) + "@(1");
            String deep = "if true { ".repeat(20);
            for (String marked : new String[] {"spawn Ball@(", "drop @(", "give @(", "take @(", "put @(", "emit Nil@(", "show @(",
                "for o in At near @(", "let a = input@(", "let a = draw@(", "let a = alive@(", "let a = root@(", "let a = int@(",
                "let a = fix@(", "let a = has@(", "let a = @(", "let a = @-1", "let a = @!true"}) {
                bad(2, deep + marked);
            }
            deep = "if true { ".repeat(19);
            good(deep + "emit Nil() to (self) in (1); spawn Ball(At.x = 1.0); put (self) At.x = 1.0; let a = -1; let b = draw(1); show (a);"
                + "}".repeat(19));
            bad(2, deep + "emit Nil() to (self) in (@(");
            good(deep + "if (true) { }" + "}".repeat(19));
            // What is through counts no more.
            good("if true { } ".repeat(25) + "show ((1) + (1)); ".repeat(25) + "show (-1 + -1); ".repeat(25));
            good("show " + "(".repeat(10) + "-".repeat(10) + "1" + ")".repeat(10) + ";");
            bad(2, "show " + "(".repeat(10) + "-".repeat(10) + "@-1");
        });
    }

    private static void kind3(Sentence s) {
        s.holds("3 (at it) a NAME told again: of a component, event, prefab, system (all of these have different ones);", () -> {
            String[] one = {"component N { } ", "event N(); ", "prefab N { } ", "system N each Z { } "};
            for (String first : one) {
                for (String second : one) {
                    Check.bad(3, "component Z { } " + first + second.replaceFirst("N", "@N"));
                }
            }
            Check.good(2, "component Z { } component n { } event N(); prefab Nn { } system nN each Z { } system NN each Z { }");
        });
        s.holds("of a member in its component or event;", () -> {
            Check.bad(3, "component C { int a; int b; fix @a; }");
            Check.bad(3, "event E(int a, fix @a);");
            Check.good(0, "component C { int a; } component D { int a; int C; int D; } event E(int a, int E); event F(int a);");
        });
        s.holds("of a component in a prefab, of a member in its ( );", () -> {
            String c = "component C { int a; int b; } component D { int a; } ";
            Check.bad(3, c + "prefab P { C; D; @C; }");
            Check.bad(3, c + "prefab P { C; D; @D; }");
            Check.bad(3, c + "prefab P { D(a = 1); C; @D(a = 1); }");
            Check.bad(3, c + "prefab P { C(a = 1, b = 2, @a = 3); }");
            Check.bad(3, c + "prefab P { C(b = 1, a = 2, @b = 3); }");
            String eight = "component C { int a; int b; int c; int d; int e; int f; int g; int h; } ";
            for (char m = 'a'; m <= 'h'; m++) {
                Check.bad(3, eight + "prefab P { C(" + m + " = 1, @" + m + " = 1); }");
            }
            StringBuilder all = new StringBuilder();
            for (char name = 'A'; name <= 'P'; name++) {
                all.append("component ").append(name).append(" { } ");
            }
            for (char name = 'A'; name <= 'P'; name++) {
                Check.bad(3, all + "prefab X { " + name + "; @" + name + "; }");
            }
            Check.good(0, c + "prefab P { C(a = 1); D(a = 1); } prefab Q { C(a = 1); D; }");
        });
        s.holds("in a system's each and without together, in its writes, in its reads, in its after;", () -> {
            Check.bad(3, HEAD + "system S each At, Go, @At { }");
            Check.bad(3, HEAD + "system S each At without @At { }");
            Check.bad(3, HEAD + "system S each At without Go, @Go { }");
            Check.bad(3, HEAD + "system S each At writes At, @At { }");
            Check.bad(3, HEAD + "system S each At reads Go, @Go { }");
            Check.bad(3, HEAD + "system S after Old, @Old each At { }");
            Check.good(2, HEAD + "system S each At, Go without Tag writes At reads Go, Tag { }");
        });
        s.holds("of a LOCAL, that another visible LOCAL has, or one of the components, events, prefabs, systems above.", () -> {
            bad(3, "let a = 1; let @a = 1;");
            bad(3, "let a = 1; if true { let @a = 1; }");
            bad(3, "let a = 1; for @a in At { }");
            bad(3, "for o in At { let @o = 1; }");
            bad(3, "for o in At { for @o in At { } }");
            for (String told : new String[] {"At", "Hit", "Ball", "Old", "S"}) {
                bad(3, "let @" + told + " = 1;");
                bad(3, "for @" + told + " in At { }");
            }
            good("if true { let a = 1; } let a = 2; for o in At { } for o in At { } let o = 1; let x = 1; let p = 2;");
            Check.good(2, HEAD + "system S each At { let Late = 1; } component Late { }");
        });
    }

    private static void kind4(Sentence s) {
        s.holds("4 (at it) a NAME that is none of those told above it (a member of its component or event; else of a LOCAL, component, "
            + "event, prefab, system of any sort).", () -> {
            bad(4, "show (At.@f);");
            bad(4, "hear Hit { show (Hit.@x); }");
            bad(4, "let o = self; show (o.At.@f);");
            bad(4, "Go.@x = 1.0;");
            bad(4, "put (self) Go.@x = 1.0;");
            bad(4, "spawn Ball(At.@f = 1.0);");
            Check.bad(4, HEAD + "prefab P { At(@f = 1.0); }");
            Check.bad(4, "prefab P { @C; } component C { }");
            for (String head : new String[] {"after @X each At", "each @X", "each At without @X", "each At writes @X", "each At reads @X"}) {
                Check.bad(4, HEAD + "system S " + head + " { } component X { }");
            }
            for (String body : new String[] {"@X = 1;", "@X.x = 1.0;", "@X;", "for o in @X { }", "hear @X { }", "spawn @X;",
                "spawn Ball(@X.x = 1.0);", "give (self) @X;", "take (self) @X;", "put (self) @X.x = 1;", "emit @X() to (self) in (1);",
                "show (@X);", "show (@X.x);", "let o = self; show (o.@X.x);", "show (has(self, @X));"}) {
                bad(4, body);
            }
            bad(4, "show (@x);");
        });
    }

    private static void kind5(Sentence s) {
        s.holds("5 (at it) a NAME that is told above but is not of the sort that must stand there: after wants systems;", () -> {
            for (String told : new String[] {"At", "Hit", "Ball"}) {
                Check.bad(5, HEAD + "system S after @" + told + " each At { }");
            }
            Check.good(2, HEAD + "system S after Old each At { }");
        });
        s.holds("each, without, reads, a prefab's, give's, take's, put's, has's, for's one, and the first of a spawn's NAME . NAME components,", () -> {
            for (String told : new String[] {"Hit", "Ball", "Old", "S"}) {
                Check.bad(5, HEAD + "system S each @" + told + " { }");
                Check.bad(5, HEAD + "system S each At without @" + told + " { }");
                Check.bad(5, HEAD + "system S each At reads @" + told + " { }");
                bad(5, "give (self) @" + told + ";");
                bad(5, "take (self) @" + told + ";");
                bad(5, "put (self) @" + told + ".x = 1.0;");
                bad(5, "show (has(self, @" + told + "));");
                bad(5, "for o in @" + told + " { }");
                bad(5, "spawn Ball(@" + told + ".x = 1.0);");
            }
            for (String told : new String[] {"Hit", "Ball", "Old", "P"}) {
                Check.bad(5, HEAD + "prefab P { @" + told + "; }");
            }
            bad(5, "let a = self; give (self) @a;");
            bad(5, "let a = self; for o in @a { }");
        });
        s.holds("writes those of its each,", () -> {
            Check.bad(5, HEAD + "system S each At writes @Go { }");
            Check.bad(5, HEAD + "system S each At without Go writes @Go { }");
            Check.bad(5, HEAD + "system S each At writes @Hit { }");
            Check.good(2, HEAD + "system S each At, Go writes Go, At { }");
        });
        s.holds("reads those that its writes have not;", () -> {
            Check.bad(5, HEAD + "system S each At writes At reads @At { }");
            Check.bad(5, HEAD + "system S each At, Go writes At reads Go, @At { }");
            Check.good(2, HEAD + "system S each At, Go without Tag writes At reads Go, Tag { }");
        });
        s.holds("hear and emit want events, spawn a prefab, and its ( ) components of that prefab.", () -> {
            for (String told : new String[] {"At", "Ball", "Old", "S"}) {
                bad(5, "hear @" + told + " { }");
                bad(5, "emit @" + told + "() to (self) in (1);");
            }
            for (String told : new String[] {"At", "Hit", "Old", "S"}) {
                bad(5, "spawn @" + told + ";");
            }
            bad(5, "spawn Ball(@Tag.x = 1.0);");
            good("spawn Ball(At.x = 1.0, Go.i = 1);");
        });
    }

    private static void kinds5(Sentence s) {
        s.holds("(At the first token of the E, when the E is through) an E of another kind than it must have;", () -> {
            bad(5, "if @1 + 2 * 3 { }");
            bad(5, "Go.i = @-1.5;");
            bad(5, "Go.i = @(1 < 2);");
            bad(5, "Go.t = @At.x;");
            bad(5, "drop (@Go.i);");
            bad(4, "if 1 + @q { }");
            bad(1, "if 1 + @; { }");
        });
        s.holds("a CONST likewise;", () -> {
            Check.bad(5, "component C { int i; } prefab P { C(i = @-1.5); }");
            Check.bad(5, "component C { fix i; } prefab P { C(i = @-1 ?");
            Check.bad(5, "component C { bool i; } prefab P { C(i = @1 ?");
            Check.bad(5, "component C { ref i; } prefab P { C(i = @true); }");
            Check.bad(1, "component C { bool i; } prefab P { C(i = -@; }");
            Check.bad(2, "component C { bool i; } prefab P { C(i = -@2147483648); }");
        });
        s.holds("(at the sign, when what is behind it is through) a sign that does not go with the kinds;", () -> {
            bad(5, "show (true @+ 1);");
            bad(4, "show (true + @q);");
            bad(1, "show (true + @);");
            bad(5, "show (1 @+ 1.0 * 2.0);");
            bad(5, "show (1 + 2 @+ 1.0);");
            bad(5, "show (1 < 2 @&& 3);");
            bad(5, "show (1 @&& true || ?");
            bad(5, "show (@-true);");
            bad(4, "show (-@q);");
            bad(5, "show (@!(1));");
        });
        s.holds("(at the ) ) another number of Es than an event has members (those beyond may be of any kind).", () -> {
            bad(5, "emit Hit(@) to (self) in (1);");
            bad(5, "emit Hit(1@) to (self) in (1);");
            bad(5, "emit Hit(1, self, 1.5@) to (self) in (1);");
            bad(5, "emit Hit(1, self, true, none, 2@) ?");
            bad(5, "emit Nil(true@) to (self) in (1);");
            bad(5, "emit Nil(1" + ", true, 2.5, none".repeat(200) + "@) to (self) in (1);");
            bad(5, "emit Hit(1, self" + ", 1".repeat(1000) + "@) to (self) in (1);");
            bad(5, "emit Hit(@true, self, 1) to (self) in (1);");
            bad(1, "emit Hit(1 @to (self) in (1);");
            bad(1, "emit Hit(1, self, 2 @; ");
            good("emit Hit(1, self) to (self) in (1); emit Nil() to (self) in (1);");
        });
    }

    private static void locals(Sentence s) {
        s.holds("LOCALS: let makes one of the kind of its E (told when the E is through: its own E doesn't have it),", () -> {
            bad(4, "let a = @a;");
            bad(4, "let a = 1 + @a;");
            good("let a = 1; Go.i = a; let b = 1.5; Go.f = b; let c = true; Go.t = c; let d = self; Go.r = d; let e = Go.b; Go.i = e;");
            bad(5, "let a = 1; Go.f = @a;");
            bad(5, "let a = 1.5; Go.t = @a;");
            bad(5, "let a = true; Go.r = @a;");
            bad(5, "let a = self; Go.i = @a;");
        });
        s.holds("for one of kind REF, which can't be given another value (5, at it);", () -> {
            good("for o in At { Go.r = o; show (o.At.x); drop (o); }");
            bad(5, "for o in At { Go.i = @o; }");
            bad(5, "for o in At { @o = none; }");
            bad(5, "for o in At { @o = ?");
        });
        s.holds("they are visible up to the end of the BLOCK where they stand, for's in its BLOCK.", () -> {
            good("let a = 1; if true { show (a); while true { show (a); } } show (a);");
            bad(4, "if true { let a = 1; } show (@a);");
            bad(4, "if true { let a = 1; } else { show (@a); }");
            bad(4, "while true { let a = 1; } show (@a);");
            bad(4, "for o in At { } show (@o);");
            bad(4, "for o in At near (@o.At.x) { }");
            bad(4, "for o in @o { }");
            good("let a = 1; let b = 2; for o in At { let c = a; } show (a + b); a = 3; b = 4;");
            good("for o in At { let c = 1; for u in At { let d = c; } c = 2; show (o); } for o in At { let c = 2; }");
            Check.bad(4, HEAD + "system S each At { let a = 1; } system T each At { show (@a); }");
        });
        s.holds("A STATEMENT's first NAME that is known wants to be a LOCAL with = behind it, of whose kind the E must be,", () -> {
            good("let a = 1; a = 2; let b = true; b = a < 3;");
            for (String told : new String[] {"At", "Go", "Hit", "Ball", "Old", "S"}) {
                bad(5, "@" + told + " = 1;");
            }
            bad(5, "let a = 1; a = @1.5;");
            bad(5, "let a = Go.b; a = @true;");
            bad(5, "@Go = ?");
        });
        s.holds("with . behind it a component of the writes, of which a member of the own entity is meant (5 at it);", () -> {
            good("Go.i = 1; Go.b = 1000; Go.f = 1.5; Go.t = true; Go.r = self;");
            for (String told : new String[] {"At", "Tag", "Hit", "Ball", "Old", "S"}) {
                bad(5, "@" + told + ".x = 1.0;");
            }
            bad(5, "let a = self; @a.At.x = 1.0;");
            bad(5, "@At. ?");
        });
        s.holds("with neither 1 there.", () -> {
            bad(1, "let a = 1; a@;");
            bad(1, "At @+ 1;");
            bad(1, "Ball@(1);");
            bad(1, "let a = 1; a @== 1;");
            bad(4, "@X;");
        });
    }

    private static void namesInSums(Sentence s) {
        s.holds("In an E: NAME is a LOCAL (5 for what is known and none, with no . behind it);", () -> {
            for (String told : new String[] {"At", "Go", "Hit", "Ball", "Old", "S"}) {
                bad(5, "show (@" + told + ");");
                bad(5, "show (@" + told + " ?");
            }
            bad(5, "hear Hit { show (@Hit); }");
            good("let a = 1; show (a);");
        });
        s.holds("NAME . NAME a member of a component of the each, or of an event within a hear of it;", () -> {
            good("show (At.x); show (Go.i); hear Hit { show (Hit.p); if true { show (Hit.w); } hear Nil { show (Hit.p); } }");
            bad(5, "show (@Tag.x);");
            bad(5, "show (@Ball.x);");
            bad(5, "show (@Old.x);");
            bad(5, "show (@Hit.p);");
            bad(5, "hear Nil { show (@Hit.p); }");
            bad(5, "hear Hit { } show (@Hit.p);");
            bad(5, "for o in At { show (@Hit.p); }");
            bad(5, "let a = 1; show (@a.x);");
            Check.bad(5, HEAD + "system S each At reads Go { show (@Go.i); }");
            Check.bad(5, HEAD + "system S each At without Go { show (@Go.i); }");
        });
        s.holds("NAME . NAME . NAME has a LOCAL of kind REF, a component of the reads, a member.", () -> {
            good("let a = self; show (a.At.x); for o in Tag { show (o.At.y); }");
            bad(5, "let a = 1; show (@a.At.x);");
            bad(5, "let a = true; show (@a.At.x);");
            bad(5, "let a = self; show (a.@Go.i);");
            bad(5, "let a = self; show (a.@Tag.x);");
            bad(5, "let a = self; show (a.@Hit.p);");
            bad(5, "let a = self; show (a.@a.x);");
            bad(1, "let a = self; show (a.At@);");
            bad(1, "let a = self; show (a.At @+ 1);");
            bad(4, "let a = self; show (a.At.@p);");
        });
        s.holds("near wants, of its for's component, that it is of the each and of the reads, and that its first two members are FIX "
            + "(5 at near).", () -> {
            good("for o in At near (1.0) { }");
            bad(5, "for o in Go @near (1.0) { }");
            bad(5, "for o in Go @near ?");
            Check.bad(5, HEAD + "system S each At { for o in At @near (1.0) { } }");
            Check.bad(5, HEAD + "system S each Go reads At { for o in At @near (1.0) { } }");
            Check.bad(5, HEAD + "system S each Go reads Go { for o in Go @near (1.0) { } }");
            Check.bad(5, HEAD + "system S each Tag reads Tag { for o in Tag @near (1.0) { } }");
            Check.bad(5, "component C { fix x; } system S each C reads C { for o in C @near (1.0) { } }");
            Check.bad(5, "component C { fix x; } component D { fix y; } system S each C reads C { for o in C @near (1.0) { } }");
            Check.bad(5, "component C { fix x; int y; } system S each C reads C { for o in C @near (1.0) { } }");
            Check.bad(5, "component C { int x; fix y; fix z; } system S each C reads C { for o in C @near (1.0) { } }");
            Check.good(1, "component C { fix x; fix y; int z; } system S each C reads C { for o in C near (1.0) { } }");
        });
    }

    private static final String[] VALUES = {"1", "1.5", "true", "self"};

    /** A sign between two values of all kinds: it goes with the pairs that are written as 0 1 2 3. */
    private static void goesWith(String sign, String pairs) {
        for (int a = 0; a < 4; a++) {
            for (int b = 0; b < 4; b++) {
                if (pairs.contains("" + a + b)) {
                    good("show (" + VALUES[a] + " " + sign + " " + VALUES[b] + ");");
                } else {
                    bad(5, "show (" + VALUES[a] + " @" + sign + " " + VALUES[b] + ");");
                }
            }
        }
    }

    /** What is behind a word wants values of the kinds that are written as 0 1 2 3; $ is the value. */
    private static void wants(String statement, String kinds) {
        for (int a = 0; a < 4; a++) {
            if (kinds.contains("" + a)) {
                good(statement.replace("@", "").replace("$", VALUES[a]));
            } else {
                bad(5, statement.replace("$", statement.contains("@") ? VALUES[a] : "@" + VALUES[a]));
            }
        }
    }

    private static void signs(Sentence s) {
        s.holds("KINDS of E: a BYTE member is an INT there (what is given to one is an INT, and HELD).", () -> {
            good("show (Go.b + 1); show (Go.b % 2); Go.i = Go.b; Go.b = Go.i; Go.b = Go.b * 2; put (self) Go.b = 1; spawn Ball(Go.b = 1);");
            bad(5, "show (Go.b @+ 1.5);");
            bad(5, "Go.b = @1.5;");
            bad(5, "Go.b = @true;");
            bad(5, "put (self) Go.b = @none;");
            bad(5, "spawn Ball(Go.b = @1.5);");
            Check.bad(5, "component C { } event E(byte b); system S each C { emit E(@1.5) to (self) in (1); }");
            WorldEngine x = Check.world("component C { byte b; byte c; } event E(byte b); prefab P { C; } system S each C writes C { C.b = 127; "
                + "C.c = C.b + 1; show (C.b + 1); emit E(C.b + 1) to (self) in (1); spawn P(C.b = -129); put (self) C.b = 300; }", 0, 1);
            x.make(0);
            Check.tick(x);
            Check.due("an INT in an E", x.shown(0), 128);
            Check.due("what is given to one is held", x.get(0, 0, 1), 127);
            Check.due("what is emitted is held", x.pending(0, 3), 127);
            Check.due("what is put is held", x.get(0, 0, 0), 127);
            Check.due("what is spawned is held", x.get(1, 0, 0), -128);
        });
        s.holds("|| && ! BOOL;", () -> {
            goesWith("||", "22");
            goesWith("&&", "22");
            wants("show (@!$);", "2");
        });
        s.holds("< <= > >= two INTs or two FIXES;", () -> {
            for (String sign : new String[] {"<", "<=", ">", ">="}) {
                goesWith(sign, "00 11");
            }
            bad(5, "Go.i = @1 < 2;");
        });
        s.holds("== != two of one kind;", () -> {
            goesWith("==", "00 11 22 33");
            goesWith("!=", "00 11 22 33");
            bad(5, "Go.i = @1 == 2;");
        });
        s.holds("+ - * / two INTs or two FIXES;", () -> {
            for (String sign : new String[] {"+", "-", "*", "/"}) {
                goesWith(sign, "00 11");
            }
            bad(5, "Go.i = @1.5 + 1.5;");
        });
        s.holds("% two INTs;", () -> goesWith("%", "00"));
        s.holds("- INT or FIX;", () -> {
            wants("show (@-$);", "01");
            bad(5, "Go.i = @-1.5;");
        });
        s.holds("self none REF; tick INT;", () -> {
            good("Go.r = self; Go.r = none; Go.i = tick;");
            bad(5, "Go.i = @self;");
            bad(5, "Go.i = @none;");
            bad(5, "Go.f = @tick;");
        });
        s.holds("input, draw of INT: INT;", () -> {
            wants("show (input($));", "0");
            wants("show (draw($));", "0");
            good("Go.i = input(0) + draw(5);");
            bad(5, "Go.f = @input(0);");
            bad(5, "Go.f = @draw(5);");
        });
        s.holds("alive of REF: BOOL; root of FIX: FIX; int of FIX: INT; fix of INT: FIX; has of REF: BOOL.", () -> {
            wants("show (alive($));", "3");
            wants("show (root($));", "1");
            wants("show (int($));", "1");
            wants("show (fix($));", "0");
            wants("show (has($, At));", "3");
            good("Go.t = alive(self) && has(self, At); Go.f = root(1.5) + fix(1); Go.i = int(1.5);");
            bad(5, "Go.i = @alive(self);");
            bad(5, "Go.i = @root(1.5);");
            bad(5, "Go.f = @int(1.5);");
            bad(5, "Go.i = @fix(1);");
            bad(5, "Go.i = @has(self, At);");
        });
    }

    private static void wants(Sentence s) {
        s.holds("if, while want BOOL, near FIX, drop, give, take, put, to REF, in INT; show any kind;", () -> {
            wants("if $ { }", "2");
            wants("while $ { }", "2");
            wants("for o in At near ($) { }", "1");
            wants("drop ($);", "3");
            wants("give ($) Tag;", "3");
            wants("take ($) Tag;", "3");
            wants("put ($) At.x = 1.0;", "3");
            wants("emit Nil() to ($) in (1);", "3");
            wants("emit Nil() to (self) in ($);", "0");
            wants("show ($);", "0123");
        });
        s.holds("an event's Es its members' kinds, put's and a spawn's the member's.", () -> {
            wants("emit Hit($, self) to (self) in (1);", "0");
            wants("emit Hit(1, $) to (self) in (1);", "3");
            wants("put (self) Go.i = $;", "0");
            wants("put (self) Go.b = $;", "0");
            wants("put (self) Go.f = $;", "1");
            wants("put (self) Go.t = $;", "2");
            wants("put (self) Go.r = $;", "3");
            wants("spawn Ball(Go.i = $);", "0");
            wants("spawn Ball(Go.b = $);", "0");
            wants("spawn Ball(Go.f = $);", "1");
            wants("spawn Ball(Go.t = $);", "2");
            wants("spawn Ball(At.x = 1.0, Go.r = $);", "3");
        });
        s.holds("A CONST is for INT and BYTE a NUMBER, for FIX a FIX NUMBER (both with - or not; a BYTE's HELD), for BOOL true or false, "
            + "for REF none.", () -> {
            String[] consts = {"1", "-1", "1.5", "-1.5", "true", "false", "none"};
            String[] kinds = {"int", "byte", "fix", "bool", "ref"};
            String[] fits = {"01", "01", "23", "45", "6"};
            for (int kind = 0; kind < 5; kind++) {
                for (int one = 0; one < 7; one++) {
                    String text = "component C { " + kinds[kind] + " m; } prefab P { C(m = @" + consts[one] + "); }";
                    if (fits[kind].contains("" + one)) {
                        Check.good(0, text.replace("@", ""));
                    } else {
                        Check.bad(5, text);
                    }
                }
            }
            WorldEngine x = Check.world("component C { byte a; byte b; byte c; byte d; int e; fix f; bool g; ref h; } "
                + "component D { bool g; bool h; int i; fix j; } prefab P { D(h = false, g = false, i = 7, j = 0.5); "
                + "C(a = 128, b = -129, c = 127, d = -128, e = -2147483647, f = -32767.9999, g = true, h = none); }", 0, 0);
            x.make(0);
            int[] want = {127, -128, 127, -128, -2147483647, -(32767 * 65536 + 65529), 1, -1, 0, 0, 7, 32768};
            for (int m = 0; m < want.length; m++) {
                Check.due("member " + m, m < 8 ? x.get(0, 0, m) : x.get(0, 1, m - 8), want[m]);
            }
        });
    }
}
