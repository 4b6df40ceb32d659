/** Promise 19: rows that fail, and why. */
final class FailureTest {
    private static final String HEAD = "component C { int i; ref r; } component D { int j; } event E(int p);\n"
        + "prefab P { C; } prefab Q { C; D; }\n";

    public static void main(String[] args) {
        reasons();
        steps();
        turns();
        commands();
        nothingIsDone();
        firstOne();
        Check.close("FailureTest");
    }

    private static WorldEngine ran(String body, int why) {
        WorldEngine x = Check.world(HEAD + "system S each C writes C reads D { " + body + " }", 0, 1);
        x.make(0);
        Check.tick(x);
        Check.due("why " + body, x.failure(2), why == 0 ? -1 : why);
        Check.due("fails " + body, x.look(6), why == 0 ? 0 : 1);
        return x;
    }

    private static void reasons() {
        ran("let a = 1 / C.i;", 1);
        ran("let a = 1 % C.i;", 1);
        ran("let a = root(fix(C.i) - 0.5);", 2);
        ran("let o = none; let a = o.D.j;", 3);
        ran("let o = self; let a = o.D.j;", 3);
        ran("let o = C.r; if true || o.D.j == 1 { }", 0);
        ran("fail;", 4);
        ran("if false { fail; }", 0);
        ran("let a = draw(C.i);", 7);
        ran("emit E(1) to (self) in (0);", 8);
        ran("emit E(1) to (self) in (17);", 8);
        ran("emit E(1) to (self) in (-1);", 8);
        ran("emit E(1) to (none) in (16);", 0);
        ran("emit E(1 / 0) to (self) in (0);", 1);
    }

    private static void steps() {
        ran("let a = 1; " + "a = 2; ".repeat(119), 0);
        ran("let a = 1; " + "a = 2; ".repeat(120), 5);
        ran("let a = 1; " + "a = 2; ".repeat(119) + "fail;", 5);
        ran("let a = 1; " + "a = 2; ".repeat(118) + "fail;", 4);
        // A step is counted as a statement begins: ahead of what fails in it.
        ran("let a = 1; " + "a = 2; ".repeat(119) + "a = 1 / 0;", 5);
    }

    private static void turns() {
        // One for the let, one for the while, and of each turn one for itself and one for its statement.
        ran("let a = 0; while a < 59 { a = a + 1; }", 0);
        ran("let a = 0; while a < 59 { a = a + 1; } a = 1;", 5);
        ran("let a = 0; while a < 60 { a = a + 1; }", 5);
        ran("while true { }", 5);
        ran("while 1 / 0 == 1 { }", 1);
        ran("let a = 0; " + "a = 1; ".repeat(118) + "while false { }", 0);
        ran("let a = 0; " + "a = 1; ".repeat(118) + "while true { }", 5);
        ran("let a = 0; " + "a = 1; ".repeat(118) + "while 1 / 0 == 1 { }", 1);
        forTurns(58, 0);
        forTurns(59, -1);
        heardTurns();
    }

    /** So many others and the row's own entity: one step for the for, two for each other one, one behind it. */
    private static void forTurns(int others, int spare) {
        WorldEngine x = Check.world(HEAD + "system S each D { for o in C { let a = 1; } let b = 1; let c = 2; }", 0, 1);
        x.make(1);
        for (int i = 0; i < others; i++) {
            x.make(0);
        }
        Check.tick(x);
        Check.due("for of " + others, x.failure(2), spare < 0 ? 5 : -1);
    }

    private static void heardTurns() {
        for (int sent = 58; sent <= 60; sent++) {
            WorldEngine x = Check.world(HEAD + "system T each C without D { if tick == 1 { emit E(1) to (C.r) in (1); } } "
                + "system S each D { hear E { let a = 1; } }", 0, 2);
            x.make(1);
            for (int i = 1; i <= sent; i++) {
                x.make(0);
                x.set(i, 0, 1, 0);
            }
            Check.tick(x);
            Check.due("pending", x.look(5), sent);
            Check.tick(x);
            Check.due("heard " + sent, x.failure(2), sent > 59 ? 5 : -1);
        }
    }

    private static void commands() {
        Check.due("eight", ran("show (1); ".repeat(8), 0).look(8), 8);
        Check.due("nine", ran("show (1); ".repeat(9), 6).look(8), 0);
        ran("show (1); ".repeat(8) + "show (1 / 0);", 1);
        ran("show (1); ".repeat(8) + "emit E(1) to (self) in (0);", 8);
        ran("show (1); ".repeat(8) + "emit E(1) to (self) in (1);", 6);
        ran("show (1); ".repeat(8) + "drop (none);", 6);
        ran("show (1); ".repeat(8) + "spawn P(C.i = 1 / 0);", 1);
        ran("show (1); ".repeat(8) + "put (self) C.i = draw(0);", 7);
        Check.due("passed", ran("drop (none); ".repeat(8), 0).look(7), 8);
    }

    private static void nothingIsDone() {
        WorldEngine x = ran("C.i = 5; show (1); spawn P; drop (self); C.r = self; fail;", 4);
        Check.due("member", x.get(0, 0, 0), 0);
        Check.due("member", x.get(0, 0, 1), -1);
        Check.due("entities", x.look(4), 1);
        Check.due("shown", x.look(8), 0);
        Check.due("passed", x.look(7), 0);
    }

    private static void firstOne() {
        WorldEngine x = Check.world(HEAD + "system A each C { if C.i == 1 { fail; } show (C.i); } "
            + "system B each C { let a = 1 / (C.i - 2); } ", 0, 2);
        x.make(0);
        x.make(0);
        x.make(0);
        x.change(0, 1, 0);
        Check.due("make", x.make(0), 257);
        x.set(257, 0, 0, 1);
        x.set(2, 0, 0, 2);
        Check.tick(x);
        Check.due("fails", x.look(6), 2);
        Check.due("system", x.failure(0), 0);
        Check.due("entity", x.failure(1), 257);
        Check.due("why", x.failure(2), 4);
        Check.due("other", x.failure(3), -1);
        Check.due("other", x.failure(-1), -1);
        x.set(257, 0, 0, 0);
        Check.due("it stays till the next tick", x.failure(2), 4);
        Check.tick(x);
        Check.due("fails", x.look(6), 3);
        Check.due("system", x.failure(0), 1);
        Check.due("entity", x.failure(1), 2);
        Check.due("why", x.failure(2), 1);
        x.set(2, 0, 0, 0);
        Check.tick(x);
        Check.due("none", x.failure(0), -1);
        Check.due("none", x.failure(1), -1);
        Check.due("none", x.failure(2), -1);
        Check.due("fails", x.look(6), 3);
    }
}
