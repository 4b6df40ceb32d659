/** The document's words on texts, sentence by sentence: KINDS, and all of I. TEXTS up to the FAULTS. */
final class TextSentenceTest {
    private static final int LEAST = -2147483648;
    private static final int MOST = 2147483647;
    private static final String ALL_KINDS = "component C { int i; byte b; fix f; bool t; ref r; } component D { int j; } "
        + "event E(int p, byte q, bool u); event N(); prefab P { C; } ";

    public static void main(String[] args) {
        kinds();
        tokens();
        Check.close("TextSentenceTest");
    }

    /** One entity that has a component of all kinds, behind one tick of a system with these statements. */
    private static WorldEngine ran(String statements) {
        WorldEngine x = Check.world(ALL_KINDS + "system S each C writes C reads D { " + statements + " }", 0, 1);
        Check.due("make", x.make(0), 0);
        Check.tick(x);
        Check.due("why " + statements, x.failure(2), -1);
        return x;
    }

    private static void shows(String e, int want) {
        Check.due(e, ran("show (" + e + ");").shown(0), want);
    }

    private static void good(String statements) {
        Check.good(1, ALL_KINDS + "system S each C writes C reads D { " + statements + " }");
    }

    private static void bad(int kind, String marked) {
        Check.bad(kind, ALL_KINDS + "system S each C writes C reads D { " + marked + " }");
    }

    private static void kinds() {
        Sentence s = Sentence.section("## Terms", "==== I. TEXTS");
        s.plain("A text declares components, events, prefabs and systems; the world goes on by ticks, with inputs that may "
            + "come late and are guessed till then; when one was guessed otherwise, the world is taken back and run again. "
            + "Systems are run by workers side by side, of which some may fall. A world is saved as bytes, loaded, and carried "
            + "into another text.");
        s.plain("KINDS:");
        s.holds("0 INT (32 bits that wrap),", () -> {
            Check.due("the greatest and one", ran("C.i = 2147483647; C.i = C.i + 1;").get(0, 0, 0), LEAST);
            Check.due("the least less one", ran("C.i = -2147483647 - 1; C.i = C.i - 1;").get(0, 0, 0), MOST);
            savedKind(0, 0);
        });
        s.holds("1 BYTE (-128 .. 127),", () -> {
            Check.due("127", ran("C.b = 127;").get(0, 0, 1), 127);
            Check.due("-128", ran("C.b = -128;").get(0, 0, 1), -128);
            savedKind(1, 1);
        });
        s.holds("2 FIX (an int that counts 65536ths of one),", () -> {
            Check.due("one", ran("C.f = 1.0;").get(0, 0, 2), 65536);
            Check.due("minus one and a half", ran("C.f = -1.5;").get(0, 0, 2), -98304);
            savedKind(2, 2);
        });
        s.holds("3 BOOL (0, 1),", () -> {
            Check.due("true", ran("C.t = true;").get(0, 0, 3), 1);
            Check.due("false", ran("C.t = true; C.t = !C.t;").get(0, 0, 3), 0);
            savedKind(3, 3);
        });
        s.holds("4 REF (an entity's NUMBER, or -1: none).", () -> {
            WorldEngine x = Check.world(ALL_KINDS + "system S each C writes C { C.r = self; }", 0, 1);
            x.make(0);
            x.change(0, 0, 0);
            Check.due("make", x.make(0), 256);
            Check.tick(x);
            Check.due("self", x.get(256, 0, 4), 256);
            Check.due("none", ran("C.r = self; C.r = none;").get(0, 0, 4), -1);
            savedKind(4, 4);
        });
        s.holds("A BYTE and a FIX are HELD: what would be less or more than they can be is the least, the greatest.", () -> {
            Check.due("a byte of 128", ran("C.b = 128;").get(0, 0, 1), 127);
            Check.due("a byte of -129", ran("C.b = -129;").get(0, 0, 1), -128);
            Check.due("a byte of the greatest int", ran("C.b = 2147483647;").get(0, 0, 1), 127);
            Check.due("a byte of the least int", ran("C.b = -2147483647 - 1;").get(0, 0, 1), -128);
            Check.due("a fix above", ran("C.f = 32767.5 + 0.5;").get(0, 0, 2), MOST);
            Check.due("a fix far above", ran("C.f = 32767.5 + 32767.5;").get(0, 0, 2), MOST);
            Check.due("a fix below", ran("C.f = -32767.5 - 0.6;").get(0, 0, 2), LEAST);
            Check.due("a fix that just fits", ran("C.f = -32767.5 - 0.5;").get(0, 0, 2), LEAST);
        });
        s.close();
    }

    private static void savedKind(int member, int kind) {
        WorldEngine x = Check.world(ALL_KINDS, 0, 0);
        x.save();
        Check.due("the kind of member " + member, x.byteOut(4 + member), kind);
    }

    private static void tokens() {
        Sentence s = Sentence.section("==== I. TEXTS", "FAULTS. The text");
        tape(s);
        words(s);
        declarations(s);
        statements(s);
        sums(s);
        numbered(s);
        s.close();
    }

    private static void tape(Sentence s) {
        s.holds("THE TAPE has at most 6000 bytes.", () -> {
            WorldEngine x = new WorldEngine(1);
            for (int i = 0; i < 300; i++) {
                Check.yes("feed " + i, x.feed(0x20202020, 0x20202020, 0x20202020, 0x20202020, 0x20202041));
            }
            Check.due("full", x.look(13), 6000);
            Check.no("one more", x.feed(0x20202020, 0x20202020, 0x20202020, 0x20202020, 0x20202020));
            Check.due("full", x.look(13), 6000);
            Check.due("all of them are read", x.text(0), -1);
            Check.due("the first A", x.fault(0), 19);
        });
        s.holds("A TEXT is the whole tape; the call that reads it empties it.", () -> {
            WorldEngine x = new WorldEngine(1);
            Check.feed(x, "component C { int i; } ");
            Check.feed(x, "component D { }");
            Check.due("text", x.text(0), 0);
            Check.due("both are read", x.look(1), 2);
            Check.due("empty behind text()", x.look(13), 0);
            Check.due("an empty text", x.text(0), 0);
            Check.due("has no components", x.look(1), 0);
            Check.feed(x, "component C { ?");
            Check.due("a fault", x.text(0), -1);
            Check.due("empty behind a fault", x.look(13), 0);
            Check.feed(x, "component C { }");
            Check.due("swap", x.swap(), 0);
            Check.due("empty behind swap()", x.look(13), 0);
        });
    }

    private static void words(Sentence s) {
        s.holds("TOKENS: NAMES (a letter a .. z, A .. Z, then letters and digits, as many as there are),", () -> {
            good("let a = 1; let z = a; let A = z; let Z = A; let a0z9AZ = Z; show (a0z9AZ);");
            good("let lets = 1; let iff = 2; let int1 = 3; let Self = 4;");
            bad(1, "let @1a = 1;");
            bad(1, "let a @b = 1;");
            for (char c : new char[] {'@', '[', '`', '_', '$', ':', '~', '\u007f', '\u00e9', '\u00ff'}) {
                badByte(c);
            }
        });
        s.holds("NUMBERS (digits),", () -> {
            shows("0", 0);
            shows("000123456789", 123456789);
            shows("12 + 3", 15);
            bad(1, "show (1 @2);");
        });
        s.holds("FIX NUMBERS (digits, a point, digits, one behind the other),", () -> {
            shows("00012.2500", 12 * 65536 + 16384);
            shows("0.5", 32768);
            bad(1, "show (1 @.5);");
            bad(1, "show (1@. 5);");
            bad(1, "show (1@.);");
            bad(1, "show (@.5);");
            bad(1, "show (1.5@.5);");
            bad(1, "show (1.5 @5);");
        });
        s.holds("the signs { } ( ) , ; . = + - * / % < > ! and <= >= == != && || (the longest counts).", () -> {
            shows("1<=1", 1);
            shows("1>=2", 0);
            shows("1==1", 1);
            shows("1!=1", 0);
            shows("1<-1", 0);
            shows("3-2", 1);
            shows("7*6/5%4", 0);
            shows("!true||true&&true", 1);
            bad(1, "show (1 < @= 1);");
            bad(1, "show (1 > @= 1);");
            bad(1, "show (1 @= = 1);");
            bad(1, "show (1 @! = 1);");
            bad(1, "show (1 ==@= 1);");
            bad(1, "show (1 <=@= 1);");
            bad(1, "show (true @& & true);");
            bad(1, "show (true @| | true);");
            bad(1, "show (true &&@& true);");
            bad(1, "show (true ||@| true);");
            bad(1, "show (true @&| true);");
            bad(1, "let a @== 1;");
            // At the text's end a sign is as long as it is elsewhere.
            for (String sign : new String[] {"<=", ">=", "==", "!=", "&&", "||"}) {
                Check.bad(1, ALL_KINDS + "system S each C { show (1 " + sign + "@");
            }
            Check.bad(1, ALL_KINDS + "system S each C { show (true @&");
        });
        s.holds("Blanks are 9, 10, 13, 32, and from # up to 10 or the end.", () -> {
            Check.good(0, "\t\n\r component\tC\n{\r}\t\n\r ");
            Check.good(0, "component C#?@ component\n{ }# the end ?");
            Check.good(0, "# # ?\n#\n#?\n");
            Check.bad(1, "# one \r ? still \n @?");
            for (char c : new char[] {0, 1, 8, 11, 12, 14, 31, 127, 133, 160}) {
                badByte(c);
            }
        });
        s.holds("KEPT WORDS, which are no NAMES: component event prefab system after each without writes reads int byte fix "
            + "bool ref let if else while for in near hear spawn drop give take put emit to show fail true false none self tick "
            + "input draw alive root has.", () -> {
            String kept = "component event prefab system after each without writes reads int byte fix bool ref let if else while "
                + "for in near hear spawn drop give take put emit to show fail true false none self tick input draw alive root has";
            for (String word : kept.split(" ")) {
                Check.bad(1, "component @" + word + " { }");
                Check.bad(1, "component C { int @" + word + "; }");
                Check.good(0, "component " + word.toUpperCase() + " { int x" + word + "; }");
                Check.good(0, "component " + word + "1 { }");
            }
        });
    }

    /** A byte that is no blank and begins no token. */
    private static void badByte(char c) {
        WorldEngine x = new WorldEngine(1);
        Check.feed(x, "component C { } " + c + " component D { }");
        Check.due("byte " + (int) c, x.text(0), -1);
        Check.due("place of byte " + (int) c, x.fault(0), 16);
    }

    private static void declarations(Sentence s) {
        s.holds("TEXT: {component NAME { {KIND NAME ;} } |", () -> {
            Check.good(0, "");
            Check.good(0, "component C { }");
            Check.good(0, "component C { int a; } component D { int a; int b; }");
            Check.bad(1, "component C { int a @}");
            Check.bad(1, "component C { int a@, }");
            Check.bad(1, "component C @;");
            Check.bad(1, "component C { @; }");
            Check.bad(1, "component C { } @;");
        });
        s.holds("event NAME ( [KIND NAME {, KIND NAME}] ) ; |", () -> {
            Check.good(0, "event E(); event F(int a); event G(int a, int b);");
            Check.bad(1, "event E@;");
            Check.bad(1, "event E(@, int a);");
            Check.bad(1, "event E(int a, @);");
            Check.bad(1, "event E(int a@; int b);");
            Check.bad(1, "event E() @event F();");
        });
        s.holds("prefab NAME { {NAME [( NAME = CONST {, NAME = CONST} )] ;} } |", () -> {
            String c = "component C { int a; int b; } component D { } ";
            Check.good(0, c + "prefab P { } prefab Q { C; } prefab R { C; D; } prefab S { C(a = 1); } prefab T { D; C(b = 1, a = 2); }");
            StringBuilder sixteen = new StringBuilder();
            for (int i = 0; i < 16; i++) {
                sixteen.append("component C").append(i).append(" { int a; int b; } ");
            }
            for (int i = 0; i < 16; i++) {
                WorldEngine x = Check.world(sixteen + "prefab P { C" + i + "(b = 7, a = 3); }", 0, 0);
                x.make(0);
                Check.due("the first member", x.get(0, i, 0), 3);
                Check.due("the second member", x.get(0, i, 1), 7);
            }
            Check.bad(1, c + "prefab P { C(@); }");
            Check.bad(1, c + "prefab P { C(a = 1, @); }");
            Check.bad(1, c + "prefab P { C(a = 1@; b = 2); }");
            Check.bad(1, c + "prefab P { C@, }");
            Check.bad(1, c + "prefab P { C(a = 1) @}");
            Check.bad(1, c + "prefab P { C(a @== 1); }");
        });
        s.holds("system NAME [after NAMES] each NAMES [without NAMES] [writes NAMES] [reads NAMES] BLOCK}.", () -> {
            String c = "component C { } component D { } component F { } system Z each C { } ";
            Check.good(2, c + "system S each C { }");
            Check.good(2, c + "system S after Z each C without D writes C reads F { }");
            Check.good(2, c + "system S each C reads D { }");
            Check.good(2, c + "system S each C without D reads D { }");
            Check.good(2, c + "system S after Z each C writes C { }");
            Check.bad(1, c + "system S @{ }");
            Check.bad(1, c + "system S @without D { }");
            Check.bad(1, c + "system S each C @after Z { }");
            Check.bad(1, c + "system S each C writes C @without D { }");
            Check.bad(1, c + "system S each C reads D @writes C { }");
            Check.bad(1, c + "system S each C @each D { }");
            Check.bad(1, c + "system S each C @;");
        });
        s.holds("KIND: int byte fix bool ref.", () -> {
            Check.good(0, "component C { int a; byte b; fix c; bool d; ref e; } event E(int a, byte b, fix c, bool d); event F(ref e);");
            Check.bad(1, "component C { @let a; }");
            Check.bad(1, "component C { @root a; }");
            Check.bad(1, "event E(@none a);");
            Check.bad(1, "event E(@reads a);");
        });
        s.holds("NAMES: NAME {, NAME}.", () -> {
            String c = "component C { } component D { } ";
            Check.good(1, c + "system S each C, D { }");
            Check.bad(1, c + "system S each @, C { }");
            Check.bad(1, c + "system S each C, @{ }");
            Check.bad(1, c + "system S each C @D { }");
            Check.bad(1, c + "system S after @each C { }");
        });
        s.holds("CONST: [-] NUMBER | [-] FIX NUMBER | true | false | none.", () -> {
            Check.good(0, "component C { int a; fix b; bool c; bool d; ref e; } prefab P { C(a = 1, b = 1.5, c = true, d = false, e = none); } "
                + "prefab Q { C(a = - 1, b = -1.5); }");
            Check.bad(1, "component C { int a; } prefab P { C(a = -@-1); }");
            Check.bad(1, "component C { int a; } prefab P { C(a = @+1); }");
            Check.bad(1, "component C { int a; } prefab P { C(a = 1 @+ 1); }");
            Check.bad(1, "component C { int a; } prefab P { C(a = @(1)); }");
            Check.bad(1, "component C { bool a; } prefab P { C(a = -@true); }");
            Check.bad(1, "component C { bool a; } prefab P { C(a = @!true); }");
            Check.bad(1, "component C { ref a; } prefab P { C(a = -@none); }");
            Check.bad(1, "component C { ref a; } prefab P { C(a = @self); }");
        });
        s.holds("BLOCK: { {STATEMENT} }.", () -> {
            good("");
            good("fail;");
            good("fail; fail; if true { } fail;");
            bad(1, "@{ }");
            bad(1, "@;");
            Check.bad(1, ALL_KINDS + "system S each C { fail; @");
            Check.bad(1, ALL_KINDS + "system S each C { } @}");
        });
    }

    private static void statements(Sentence s) {
        s.holds("STATEMENT: let NAME = E ; |", () -> {
            Check.due("let", ran("let a = 5; show (a);").shown(0), 5);
            bad(1, "let a @5;");
            bad(1, "let a = @;");
            bad(1, "let a = 5 @}");
            bad(1, "let x@.i = 5;");
        });
        s.holds("NAME = E ; | NAME . NAME = E ; |", () -> {
            Check.due("a local", ran("let a = 5; a = a + 1; show (a);").shown(0), 6);
            Check.due("a member", ran("C.i = 7;").get(0, 0, 0), 7);
            bad(1, "let a = 5; a = 6 @}");
            bad(1, "C.i @5;");
            bad(1, "C.@= 5;");
            bad(1, "C.i = 7 @}");
        });
        s.holds("if E BLOCK [else BLOCK] |", () -> {
            Check.due("if true", ran("if true { C.i = 1; } else { C.i = 2; }").get(0, 0, 0), 1);
            Check.due("if false", ran("if false { C.i = 1; } else { C.i = 2; }").get(0, 0, 0), 2);
            Check.due("without else", ran("C.i = 3; if false { C.i = 1; }").get(0, 0, 0), 3);
            bad(1, "if true @fail;");
            bad(1, "if true { } else @fail;");
            bad(1, "if true { } else { } @else { }");
            bad(1, "if @{ }");
        });
        s.holds("while E BLOCK |", () -> {
            Check.due("while", ran("while C.i < 5 { C.i = C.i + 2; }").get(0, 0, 0), 6);
            bad(1, "while true @fail;");
            bad(1, "while @{ }");
        });
        s.holds("for NAME in NAME [near ( E )] BLOCK |", () -> {
            good("for o in D { }");
            Check.good(1, "component A { fix x; fix y; } system S each A reads A { for o in A near (1.0) { } for o in A { } }");
            bad(1, "for @in D { }");
            bad(1, "for o @D { }");
            bad(1, "for o in @{ }");
            bad(1, "for o in D @fail;");
            Check.bad(1, "component A { fix x; fix y; } system S each A reads A { for o in A near @1.0 { } }");
            Check.bad(1, "component A { fix x; fix y; } system S each A reads A { for o in A near (1.0) @near (1.0) { } }");
        });
        s.holds("hear NAME BLOCK |", () -> {
            good("hear E { } hear N { }");
            bad(1, "hear @{ }");
            bad(1, "hear E @() { }");
        });
        s.holds("spawn NAME [( NAME . NAME = E {, NAME . NAME = E} )] ; |", () -> {
            Check.due("plain", ran("spawn P;").get(1, 0, 0), 0);
            Check.due("told", ran("spawn P(C.i = 4);").get(1, 0, 0), 4);
            Check.due("two told", ran("spawn P(C.i = 4, C.b = 5);").get(1, 0, 1), 5);
            bad(1, "spawn P(@);");
            bad(1, "spawn P(C.i = 4, @);");
            bad(1, "spawn P(C @= 4);");
            bad(1, "spawn P(C.i = 4) @}");
            bad(1, "spawn P @}");
        });
        s.holds("drop ( E ) ; | give ( E ) NAME ; | take ( E ) NAME ; | put ( E ) NAME . NAME = E ; |", () -> {
            Check.due("drop", ran("drop (self);").look(4), 0);
            Check.yes("give", ran("give (self) D;").has(0, 1));
            Check.no("take", ran("take (self) C;").has(0, 0));
            Check.due("put", ran("put (self) C.i = 6;").get(0, 0, 0), 6);
            bad(1, "drop @self;");
            bad(1, "drop (self) @D;");
            bad(1, "drop (@);");
            bad(1, "give (self) @;");
            bad(1, "give (self) D@.j;");
            bad(1, "take @self D;");
            bad(1, "take (self) D @= 1;");
            bad(1, "put (self) C @= 6;");
            bad(1, "put (self) C.i@;");
        });
        s.holds("emit NAME ( [E {, E}] ) to ( E ) in ( E ) ; |", () -> {
            Check.due("without members", ran("emit N() to (self) in (2);").pending(0, 0), 1);
            Check.due("with members", ran("emit E(5, 6, true) to (self) in (2);").pending(0, 4), 6);
            bad(1, "emit N @to (self) in (2);");
            bad(1, "emit E(1, @) to (self) in (2);");
            bad(1, "emit N() @in (2) to (self);");
            bad(1, "emit N() to @self in (2);");
            bad(1, "emit N() to (self) in @2;");
            bad(1, "emit N() to (self) @;");
            bad(1, "emit N() to (self) in (2) @}");
        });
        s.holds("show ( E ) ; | fail ;", () -> {
            Check.due("show", ran("show (9);").shown(0), 9);
            bad(1, "show @9;");
            bad(1, "show (9@, 8);");
            bad(1, "show (@);");
            bad(1, "fail @(1);");
            bad(1, "fail @}");
        });
    }

    private static void sums(Sentence s) {
        s.holds("E: AND {|| AND}. AND: REL {&& REL}.", () -> {
            shows("true || true && false", 1);
            shows("(true || true) && false", 0);
            shows("false && false || true", 1);
            shows("false || false || true", 1);
            shows("true && true && false", 0);
            bad(1, "show (true || @);");
            bad(1, "show (true && @);");
            bad(1, "show (@|| true);");
        });
        s.holds("REL: SUM [(< | <= | > | >= | == | !=) SUM].", () -> {
            shows("1 + 1 < 3 && 3 > 1 + 1", 1);
            shows("2 <= 1 + 1", 1);
            shows("1 - 2 >= 0", 0);
            shows("1 + 1 == 2", 1);
            shows("1 + 1 != 2", 0);
            String[] signs = {"<", "<=", ">", ">=", "==", "!="};
            int[][] table = {{1, 1, 0, 0, 0, 1}, {0, 1, 0, 1, 1, 0}, {0, 0, 1, 1, 0, 1}};
            for (int i = 0; i < 6; i++) {
                for (int left = 0; left < 3; left++) {
                    shows(left + " " + signs[i] + " 1", table[left][i]);
                    shows(left + ".0 " + signs[i] + " 1.0", table[left][i]);
                    shows(left + " - 2147483647 " + signs[i] + " 1 - 2147483647", table[left][i]);
                }
            }
            shows("-2147483647 < 2147483647", 1);
            shows("-32767.0 > 32767.0", 0);
            bad(1, "show (1 < 2 @< 3);");
            bad(1, "show (true == true @== true);");
            bad(1, "show (1 != @);");
        });
        s.holds("SUM: TERM {(+ | -) TERM}. TERM: UNARY {(* | / | %) UNARY}.", () -> {
            shows("2 + 3 * 4", 14);
            shows("20 - 5 - 3", 12);
            shows("20 - 5 + 3", 18);
            shows("100 / 5 * 2", 40);
            shows("100 / 7 % 4", 2);
            shows("2 * 3 + 4 * 5", 26);
            shows("1" + " + 2".repeat(900), 1801);
            shows("1" + " - 2".repeat(900), -1799);
            shows("7" + " * 3 % 10".repeat(400), 7);
            bad(1, "show (1 + @);");
            bad(1, "show (1 * @);");
            bad(1, "show (1 + @* 2);");
        });
        s.holds("UNARY: (- | !) UNARY |", () -> {
            shows("--5", 5);
            shows("-5 + 3", -2);
            shows("2 - -3", 5);
            shows("2 * -3", -6);
            shows("!!true", 1);
            shows("!false && false", 0);
            bad(1, "show (-@);");
            bad(1, "show (!@);");
            bad(1, "show (@+ 5);");
        });
        s.holds("NUMBER | FIX NUMBER | true | false | none | self | tick | ( E ) |", () -> {
            shows("5", 5);
            shows("1.5", 98304);
            shows("true", 1);
            shows("false", 0);
            shows("none", -1);
            shows("self", 0);
            shows("tick", 1);
            shows("(((7)))", 7);
            bad(1, "show ((@));");
            bad(1, "show ((7@;");
        });
        s.holds("(input | draw | alive | root | int | fix) ( E ) | has ( E , NAME ) |", () -> {
            shows("input(0) + input(9)", 0);
            shows("draw(1)", 0);
            shows("alive(self)", 1);
            shows("root(4.0)", 2 * 65536);
            shows("int(2.5)", 2);
            shows("fix(2)", 2 * 65536);
            shows("has(self, C)", 1);
            shows("has(self, D)", 0);
            for (String call : "input draw alive root int fix has".split(" ")) {
                bad(1, "show (" + call + "@);");
                bad(1, "show (" + call + "(@));");
            }
            bad(1, "show (@byte(1));");
            bad(1, "show (@bool(1));");
            bad(1, "show (draw(1@, 2));");
            bad(1, "show (has(self@));");
            bad(1, "show (has(self, @));");
            bad(1, "show (has(self, C@, D));");
        });
        s.holds("NAME | NAME . NAME | NAME . NAME . NAME.", () -> {
            shows("C.i", 0);
            Check.due("a local", ran("let a = 3; show (a);").shown(0), 3);
            Check.good(1, ALL_KINDS + "system S each C reads C { let o = self; show (o.C.i); }");
            bad(1, "show (C.@);");
            bad(1, "show (C.@5);");
            bad(1, "show (C.i@.j);");
            bad(1, "let o = self; show (o.D@);");
            bad(1, "let o = self; show (o.D.@);");
            bad(1, "let o = self; show (o.D.j@.j);");
        });
    }

    private static void numbered(Sentence s) {
        s.holds("Components, events, prefabs, systems are numbered from 0 on as they stand, each for themselves, and so are a "
            + "component's and an event's members.", () -> {
            WorldEngine x = Check.world("prefab P0 { } event E0(); component C0 { } system S0 each C0 { } component C1 { int a; byte b; bool c; } "
                + "event E1(int a, byte b, bool c); prefab P1 { C1(a = 10, b = 11, c = true); } "
                + "system S1 each C1 { emit E1(7, 8, true) to (self) in (1); fail; } system S2 each C1 { emit E1(7, 8, true) to (self) in (1); }", 0, 3);
            Check.due("the second prefab", x.make(1), 0);
            Check.due("components", x.look(1), 2);
            Check.yes("has the second component", x.has(0, 1));
            Check.no("has not the first component", x.has(0, 0));
            Check.due("member 0", x.get(0, 1, 0), 10);
            Check.due("member 1", x.get(0, 1, 1), 11);
            Check.due("member 2", x.get(0, 1, 2), 1);
            Check.tick(x);
            Check.due("the second system failed", x.failure(0), 1);
            Check.due("the second event", x.pending(0, 0), 1);
            Check.due("its member 0", x.pending(0, 3), 7);
            Check.due("its member 1", x.pending(0, 4), 8);
            Check.due("its member 2", x.pending(0, 5), 1);
        });
    }
}
