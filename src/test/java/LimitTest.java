/** The limits of texts: what fits, and what is one too many. */
final class LimitTest {
    public static void main(String[] args) {
        declarations();
        members();
        parts();
        locals();
        nesting();
        behindFault();
        Check.close("LimitTest");
    }

    private static String many(int from, int to, String pattern) {
        StringBuilder b = new StringBuilder();
        for (int i = from; i <= to; i++) {
            b.append(pattern.replace("$", "" + i));
        }
        return b.toString();
    }

    private static void declarations() {
        Check.good(0, many(1, 16, "component C$ { } "));
        Check.bad(2, many(1, 16, "component C$ { } ") + "@component C17 { }");
        Check.bad(2, many(1, 16, "component C$ { } ") + "@component ?");
        Check.good(0, many(1, 8, "event E$(); "));
        Check.bad(2, many(1, 8, "event E$(); ") + "@event E9();");
        Check.good(0, many(1, 16, "prefab P$ { } "));
        Check.bad(2, many(1, 16, "prefab P$ { } ") + "@prefab P17 { }");
        Check.good(16, "component C { } " + many(1, 16, "system S$ each C { } "));
        Check.bad(2, "component C { } " + many(1, 16, "system S$ each C { } ") + "@system S17 each C { }");
        String all = many(1, 16, "component C$ { } ") + many(1, 8, "event E$(); ") + many(1, 16, "prefab P$ { } ")
            + many(1, 16, "system S$ each C1 { " + many(1, 1, "let a = 1; ") + "} ");
        Check.good(16, all);
        String locals = "";
        for (int i = 1; i <= 12; i++) {
            locals += "let a" + i + " = 1; ";
        }
        Check.good(16, many(1, 16, "component C$ { } ") + many(1, 8, "event E$(); ") + many(1, 16, "prefab P$ { } ")
            + many(1, 16, "system S$ each C1 { " + locals + "} "));
    }

    private static void members() {
        Check.good(0, "component C { " + many(1, 8, "int m$; ") + "}");
        Check.bad(2, "component C { " + many(1, 8, "int m$; ") + "@int m9; }");
        Check.bad(1, "component C { " + many(1, 8, "int m$; ") + "@m9 int; }");
        String six = "";
        for (int c = 1; c <= 6; c++) {
            six += "component C" + c + " { " + many(1, 8, "int m$; ") + "} ";
        }
        Check.good(0, six + "component D { } event E(int a, int b, int c, int d);");
        Check.bad(2, six + "component D { @int m; }");
        Check.good(0, "event E(" + many(1, 3, "int m$, ") + "int m4);");
        Check.bad(2, "event E(" + many(1, 4, "int m$, ") + "@int m5);");
    }

    private static void parts() {
        String nine = many(1, 9, "component C$ { int m; } ");
        Check.good(0, nine + "prefab P { " + many(1, 8, "C$; ") + "}");
        Check.bad(2, nine + "prefab P { " + many(1, 8, "C$; ") + "@C9; }");
        Check.bad(2, nine + "prefab P { " + many(1, 8, "C$; ") + "@C1; }");
        Check.bad(2, nine + "prefab P { " + many(1, 8, "C$; ") + "@Zip; }");
        Check.bad(1, nine + "prefab P { " + many(1, 8, "C$; ") + "@; }");
        String head = nine + "prefab P { C1; } system S each C1 { spawn P(C1.m = 1, C1.m = 2, C1.m = 3, C1.m = 4";
        Check.good(1, head + "); }");
        Check.bad(2, head + ", @C1.m = 5); }");
        Check.bad(2, head + ", @Zip.m = 5); }");
        Check.bad(1, head + ", @5); }");
    }

    private static void locals() {
        String head = "component C { int m; } system S each C { " + many(1, 11, "let a$ = $; ");
        Check.good(1, head + "let b = 1; }");
        Check.good(1, head + "for o in C { } let b = 1; }");
        Check.good(1, head + "if true { let b = 1; } if true { let b = 2; } let c = 3; }");
        Check.bad(2, head + "let b = 1; let @c = 1; }");
        Check.bad(2, head + "let b = 1; let @b = 1; }");
        Check.bad(2, head + "let b = 1; for @o in C { } }");
        Check.bad(2, head + "for o in C { let @b = 1; } }");
        Check.bad(2, head + "let b = 1; if true { let @c = 1; } }");
    }

    private static String times(int n, String part) {
        return part.repeat(n);
    }

    private static void nesting() {
        String head = "component C { fix x; fix y; } prefab P { C; } event E(int a); system S each C reads C { ";
        Check.good(1, head + times(20, "if true { ") + times(20, "} ") + "}");
        Check.bad(2, head + times(20, "if true { ") + "if true @{ }");
        Check.bad(2, head + times(20, "while true { ") + "if false @{ }");
        Check.good(1, head + "show " + times(20, "(") + "1" + times(20, ")") + "; }");
        Check.bad(2, head + "show " + times(20, "(") + "@(1" + times(21, ")") + "; }");
        Check.good(1, head + "let a = " + times(20, "-") + "1; let b = " + times(20, "!") + "true; }");
        Check.bad(2, head + "let a = " + times(20, "-") + "@-1; }");
        Check.bad(2, head + "let b = " + times(20, "!") + "@!true; }");
        Check.bad(2, head + times(10, "if true { ") + "show " + times(5, "(") + times(5, "-") + "@(1");
        Check.bad(2, head + times(10, "if true { ") + "show " + times(5, "(") + times(5, "-") + "@-1");
        Check.good(1, head + times(10, "if true { ") + "show " + times(5, "(") + times(5, "-") + "1" + times(5, ")") + "; "
            + times(10, "} ") + "}");
        Check.good(1, head + times(19, "if true { ") + "spawn P(C.x = 1.0); emit E(1) to (self) in (1); drop (self); "
            + "show (tick); let a = -1; let b = draw(5); let c = has(self, C); give (self) C; for o in C near (1.0) { } "
            + times(19, "} ") + "}");
        String deep = head + times(20, "if true { ");
        Check.bad(2, deep + "spawn P@(C.x = 1.0);");
        Check.bad(2, deep + "emit E@(1)");
        Check.bad(2, deep + "show @(1);");
        Check.bad(2, deep + "let a = draw@(1);");
        Check.bad(2, deep + "let a = has@(self, C);");
        Check.bad(2, deep + "for o in C near @(1.0) { }");
        Check.bad(2, deep + "for o in C @{ }");
        Check.bad(2, deep + "hear E @{ }");
        Check.bad(1, deep + "hear E @;");
        Check.good(1, head + times(3, "show (" + times(19, "(") + "1" + times(19, ")") + "); ") + "}");
    }

    /** A fault deep within a text leaves nothing behind for the next one. */
    private static void behindFault() {
        WorldEngine x = new WorldEngine(1);
        String head = "component C { int i; } event E(int p); system S each C { ";
        Check.feed(x, head + "let a = 1; " + times(15, "hear E { ") + "let b = ((?");
        Check.due("a fault deep within", x.text(0), -1);
        Check.feed(x, head + times(20, "if true { ") + times(20, "} ")
            + many(1, 12, "let a$ = 1; ") + "}");
        Check.due("as deep as may be", x.text(0), 1);
        Check.feed(x, head + "show (E.p); }");
        Check.due("no hear is open", x.text(0), -5);
    }
}
