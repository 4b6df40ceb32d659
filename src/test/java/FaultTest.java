/** Promises 4 and 5: texts and the kind and place of their faults; @ marks the place that is due. */
final class FaultTest {
    private static final String HEAD = "component At { fix x; fix y; } component Go { fix x; byte b; bool t; ref r; }\n"
        + "component Life { int n; } component Tag { } event Hit(int power, ref by); event Nil();\n"
        + "prefab Ball { At; Go(x = 0.5); Life(n = 3); } system Old each At { }\n";

    public static void main(String[] args) {
        tokens();
        components();
        events();
        prefabs();
        heads();
        locals();
        statements();
        names();
        kinds();
        order();
        answers();
        Check.close("FaultTest");
    }

    private static void badHead(int kind, String marked) {
        Check.bad(kind, HEAD + marked);
    }

    private static void badBody(int kind, String marked) {
        Check.bad(kind, HEAD + "system S each At, Go, Life writes Go, Life reads At { " + marked + " }");
    }

    private static void goodBody(String body) {
        Check.good(2, HEAD + "system S each At, Go, Life writes Go, Life reads At { " + body + " }");
    }

    private static void tokens() {
        Check.good(0, "");
        Check.good(0, " \t\r\n # all of this ? is a remark");
        Check.good(0, "# one\n# two\ncomponent A{}#three");
        Check.bad(1, "@?");
        Check.bad(1, "component A { } @\u0000");
        Check.bad(1, "component A { } @\u00e4");
        Check.bad(1, "component A { } @_");
        Check.bad(1, "component@");
        Check.bad(1, "component A { @");
        Check.bad(1, "component A { } # } \n @}");
        Check.bad(1, "@A");
        Check.bad(1, "@12");
        Check.bad(1, "@averyverylongname");
        Check.bad(1, "component @12345678901");
        Check.bad(1, "component @tick { }");
        goodBody("let a = 1<2; let b=1<=2&&2>=1||!(1!=2); let c = 3==4;");
        badBody(1, "let a = 1 @& 2;");
        badBody(1, "let a = true @| true;");
        badBody(1, "let a = true &&@& true;");
        badBody(1, "let a = 1 @= = 2;");
        badBody(1, "let a @== 1;");
        badBody(1, "let a = 1@. ;");
        badBody(1, "let a = 1.5@.5;");
        badBody(1, "let a = 1@a;");
        badBody(1, "let a = @.5;");
        goodBody("let a = 007; let b = 00032767.5; let lets = 1; let x1y2 = 2;");
    }

    private static void components() {
        Check.good(0, "component A { } component B { int a; byte b; fix c; bool d; ref e; }");
        Check.bad(1, "component A @int x; }");
        Check.bad(1, "component A { @x int; }");
        Check.bad(1, "component A { int x@, int y; }");
        Check.bad(1, "component A { int @int; }");
        Check.bad(1, "component A { int x; @; }");
        Check.bad(1, "component A { int x @}");
        Check.bad(2, "component @abcdefghijklm { }");
        Check.bad(2, "component A { int @abcdefghijklm; }");
        Check.good(0, "component abcdefghijkl { int abcdefghijkl; }");
        Check.bad(3, "component A { } component @A { }");
        Check.bad(3, "component A { int x; fix @x; }");
        Check.good(0, "component A { int A; } component B { int A; int B; }");
    }

    private static void events() {
        Check.good(0, "event E(); event F(int a); event G(int a, byte b, fix c, ref d);");
        Check.bad(1, "event E @;");
        Check.bad(1, "event E(@a);");
        Check.bad(1, "event E(int a @int b);");
        Check.bad(1, "event E(int a, @);");
        Check.bad(1, "event E(int a) @event F();");
        Check.bad(2, "event E(int a, int b, int c, int d, @int e);");
        Check.bad(3, "event E(int a, fix @a);");
        Check.bad(3, "component A { } event @A();");
        Check.bad(3, "event A(); component @A { }");
    }

    private static void prefabs() {
        Check.good(0, "prefab P { } component C { int i; byte b; fix f; bool t; ref r; } "
            + "prefab Q { C(i = -5, b = 300, f = -1.5, t = true, r = none); }");
        Check.bad(1, "component C { int i; } prefab P { C(@); }");
        Check.bad(1, "component C { int i; } prefab P { C(i @5); }");
        Check.bad(1, "component C { int i; } prefab P { C(i = @C); }");
        Check.bad(1, "component C { int i; } prefab P { C(i = 5 @6); }");
        Check.bad(1, "component C { int i; } prefab P { C(i = 5,@); }");
        Check.bad(1, "component C { int i; } prefab P { C @}");
        Check.bad(1, "component C { bool t; } prefab P { C(t = -@true); }");
        Check.bad(1, "component C { int i; } prefab P { C(i = -@-5); }");
        Check.bad(1, "prefab P { @; }");
        Check.bad(2, "component C { int i; } prefab P { C(i = @2147483648); }");
        Check.bad(2, "component C { bool t; } prefab P { C(t = -@2147483648); }");
        Check.bad(2, "component C { fix f; } prefab P { C(f = @32768.0); }");
        Check.bad(2, "component C { fix f; } prefab P { C(f = @1.00000); }");
        Check.good(0, "component C { int i; fix f; } prefab P { C(i = 2147483647, f = 32767.9999); }");
        Check.bad(3, "component C { int i; } prefab P { C; @C; }");
        Check.bad(3, "component C { int i; } prefab P { C(i = 1, @i = 2); }");
        Check.bad(3, "prefab P { } prefab @P { }");
        Check.bad(4, "prefab P { @C; } component C { }");
        Check.bad(4, "component C { int i; } prefab P { C(@j = 1); }");
        Check.bad(5, "prefab P { @P; }");
        Check.bad(5, "event E(); prefab P { @E; }");
        Check.bad(5, "component C { int i; } prefab P { C(i = @1.0); }");
        Check.bad(5, "component C { int i; } prefab P { C(i = @-1.0); }");
        Check.bad(5, "component C { byte b; } prefab P { C(b = @true); }");
        Check.bad(5, "component C { fix f; } prefab P { C(f = @1); }");
        Check.bad(5, "component C { bool t; } prefab P { C(t = @1); }");
        Check.bad(5, "component C { ref r; } prefab P { C(r = @-1); }");
        Check.bad(5, "component C { ref r; } prefab P { C(r = @false); }");
    }

    private static void heads() {
        Check.good(2, HEAD + "system S after Old each At, Go without Life, Tag writes Go, At reads Life { }");
        Check.good(2, HEAD + "system S after S each Tag { }");
        badHead(1, "system S @writes At { }");
        badHead(1, "system S each At writes At @without Go { }");
        badHead(1, "system S each At, @{ }");
        badHead(1, "system S each At reads Go @writes At { }");
        badHead(1, "system S each At@");
        badHead(1, "system S each At @; { }");
        badHead(3, "system @Old each At { }");
        badHead(3, "system @Ball each At { }");
        badHead(3, "system S each At, @At { }");
        badHead(3, "system S each At without Go, @At { }");
        badHead(3, "system S each At without Go, @Go { }");
        badHead(3, "system S each At writes At, @At { }");
        badHead(3, "system S each At reads Go, @Go { }");
        badHead(3, "system S after Old, @Old each At { }");
        badHead(4, "system S after @New each At { } system New each At { }");
        badHead(4, "system S each @x { }");
        badHead(5, "system S after @At each At { }");
        badHead(5, "system S each @Hit { }");
        badHead(5, "system S each @S { }");
        badHead(5, "system S each At without @Ball { }");
        badHead(5, "system S each At writes @Go { }");
        badHead(5, "system S each At without Go writes @Go { }");
        badHead(5, "system S each At writes At reads @At { }");
        badHead(5, "system S each At reads @Old { }");
    }

    private static void locals() {
        goodBody("let a = 1; if true { let b = a; } if true { let b = 2.5; b = 1.0; }");
        goodBody("for o in At { let b = o; b = none; } for o in Go { }");
        badBody(3, "let a = 1; let @a = 2;");
        badBody(3, "let a = 1; if true { let @a = 2; }");
        badBody(3, "let @At = 1;");
        badBody(3, "let @S = 1;");
        badBody(3, "let @Hit = 1;");
        badBody(3, "let @Ball = 1;");
        badBody(3, "let a = 1; for @a in At { }");
        badBody(3, "for @At in At { }");
        badBody(4, "let a = @a;");
        badBody(4, "if true { let a = 1; } let b = @a;");
        badBody(4, "for o in At { } drop (@o);");
        badBody(4, "for o in @o { }");
        badBody(4, "for o in At near (@o.At.x) { }");
        badBody(5, "for o in At { @o = none; }");
        badBody(5, "let a = 1; a = @1.0;");
        badBody(5, "let a = none; for o in @a { }");
    }

    private static void statements() {
        goodBody("fail; show (1); show (true); show (none); show (1.5); drop (self); give (self) Tag; take (none) Tag;");
        goodBody("put (self) Go.b = 1000; spawn Ball; spawn Ball(At.x = 1.0, Life.n = 2); hear Hit { show (Hit.power); }");
        goodBody("emit Hit(1, self) to (none) in (3); emit Nil() to (self) in (1);");
        goodBody("while false { } if true { } else { if true { } } for o in At near (1.0) { }");
        badBody(1, "@else { }");
        badBody(1, "@;");
        badBody(1, "At@;");
        badBody(1, "let a = 1; a@;");
        badBody(1, "let a = 1; a@+ 1;");
        badBody(1, "if true @show (1);");
        badBody(1, "if true { } else @if true { }");
        badBody(1, "show @1;");
        badBody(1, "show (1@;");
        badBody(1, "fail @(1);");
        badBody(1, "emit Hit @to (self) in (1);");
        badBody(1, "emit Nil() @in (1);");
        badBody(1, "emit Nil() to (self) @;");
        badBody(1, "spawn Ball(@);");
        badBody(1, "spawn Ball(At @= 1.0);");
        badBody(1, "put (self) Life @= 1;");
        badBody(1, "put (self) Life.n @1;");
        badBody(1, "hear Hit @;");
        badBody(1, "for o @At { }");
        badBody(4, "@q = 1;");
        badBody(4, "@q;");
        badBody(4, "Go.@z = 1;");
        badBody(4, "hear @Hat { }");
        badBody(4, "spawn Ball(@Zip.x = 1.0);");
        badBody(4, "spawn Ball(At.@z = 1.0);");
        badBody(4, "put (self) At.@z = 1.0;");
        badBody(4, "give (self) @z;");
        badBody(5, "@Go = 1;");
        badBody(5, "@At.x = 1.0;");
        badBody(5, "@Tag.x = 1.0;");
        badBody(5, "let a = 1; @a.x = 1;");
        badBody(5, "hear @At { }");
        badBody(5, "spawn @At;");
        badBody(5, "spawn Ball(@Tag.x = 1);");
        badBody(5, "spawn Ball(@Hit.power = 1);");
        badBody(5, "give (self) @Hit;");
        badBody(5, "take (self) @Ball;");
        badBody(5, "put (self) @S.x = 1;");
        badBody(5, "emit @Ball() to (self) in (1);");
        badBody(5, "for o in @Hit { }");
        badBody(5, "emit Hit(1@) to (self) in (1);");
        badBody(5, "emit Hit(@) to (self) in (1);");
        badBody(5, "emit Hit(1, self, 2.0, true@) to (self) in (1);");
        badBody(5, "emit Nil(1@) to (self) in (1);");
        badBody(5, "emit Hit(@1.0, self) to (self) in (1);");
        badBody(1, "emit Hit(1 @2) to (self) in (1);");
        Check.bad(5, HEAD + "system S each At writes At { for o in At @near (1.0) { } }");
        Check.bad(5, HEAD + "system S each Life reads At { for o in At @near (1.0) { } }");
        Check.bad(5, HEAD + "system S each Go reads Go { for o in Go @near (1.0) { } }");
        Check.bad(5, HEAD + "system S each Life reads Life { for o in Life @near (1.0) { } }");
    }

    private static void names() {
        goodBody("let a = At.x; let b = Go.b + 1; let o = self; let c = o.At.x; hear Hit { hear Nil { show (Hit.by); } }");
        badBody(5, "show (@At);");
        badBody(5, "show (@S);");
        badBody(5, "show (@Hit);");
        badBody(5, "show (@Tag.x);");
        badBody(5, "show (@Ball.x);");
        badBody(5, "show (@Hit.power);");
        badBody(5, "hear Hit { } show (@Hit.power);");
        badBody(5, "hear Nil { show (@Hit.power); }");
        badBody(5, "let a = 1; show (@a.At.x);");
        badBody(5, "let o = self; show (o.@Go.x);");
        badBody(5, "let o = self; show (o.@Hit.x);");
        badBody(1, "let o = self; show (o.At@);");
        badBody(4, "let o = self; show (o.@Zip.x);");
        badBody(4, "let o = self; show (o.At.@n);");
        badBody(4, "show (At.@n);");
        badBody(4, "hear Hit { show (Hit.@n); }");
        badBody(4, "show (@zip);");
        badBody(1, "show (At.x@.y);");
        badBody(1, "show (At.@1);");
        badBody(2, "show (@abcdefghijklm);");
        badBody(1, "show (1 @abcdefghijklm);");
    }

    private static void kinds() {
        badBody(5, "if @1 { }");
        badBody(5, "while @(1 + 2) { }");
        badBody(5, "for o in At near (@1) { }");
        badBody(5, "drop (@1);");
        badBody(5, "give (@true) Tag;");
        badBody(5, "take (@1.0) Tag;");
        badBody(5, "put (@1) Life.n = 1;");
        badBody(5, "put (self) Life.n = @true;");
        badBody(5, "Go.b = @1.0;");
        badBody(5, "Go.t = @1;");
        badBody(5, "Go.r = @1;");
        badBody(5, "Go.x = @Go.b;");
        badBody(5, "spawn Ball(Life.n = @1.0);");
        badBody(5, "emit Nil() to (@1) in (1);");
        badBody(5, "emit Nil() to (self) in (@1.0);");
        String[] signs = {"1 @+ 1.0", "1.0 @- 1", "true @* true", "self @/ self", "1.0 @% 1.0", "true @< false",
            "self @>= none", "1 @<= 1.0", "1 @== 1.0", "self @!= 1", "1 @&& true", "true @|| 1", "1 @&& 1", "self @|| none", "1.0 @&& 1.0", "@-true", "@!1", "@-self",
            "@!none", "draw(@1.0)", "input(@true)", "alive(@1)", "root(@1)", "int(@1)", "fix(@1.0)", "has(@1, At)",
            "1 + 2 * 3 @+ 1.0", "1 @+ 2.0 * 3.0", "(1 @+ true)", "1 < 2 @&& 1"};
        for (String one : signs) {
            badBody(5, "show (" + one + ");");
        }
        badBody(1, "show (1 < 2 @< 3);");
        badBody(1, "show (1 @! 2);");
        badBody(1, "show (@* 2);");
        badBody(1, "show (has @self, At);");
        badBody(1, "show (has(self@));");
        badBody(1, "show (has(self, @self));");
        badBody(4, "show (has(self, @q));");
        badBody(5, "show (has(self, @Hit));");
        badBody(1, "show (draw @1);");
        badBody(1, "show (@bool(1));");
        goodBody("let a = 1 + 2 * 3 - 4 / 5 % 6; let b = -1.5 * 2.0 / 3.0 + root(2.0); let c = !(a < 1) && b > 1.0 || self == none;");
        goodBody("let t = true == false; let d = draw(5) + input(0) + int(1.5); let e = fix(1); let f = alive(self) && has(none, Tag);");
    }

    private static void order() {
        badBody(5, "if @1 show (2);");
        badBody(5, "let a = 1; a = @1.0 2;");
        badBody(5, "show (1 @+ true + );");
        badBody(5, "drop (@1 2);");
        badBody(1, "show (1 + @* true);");
        badBody(4, "show (@q + true);");
        badBody(4, "show (true + @q);");
        badBody(2, "show (true + @99999999999);");
        badBody(2, "let a = 1; let abc = @2147483648 + true;");
        badBody(5, "show (has(@1 2));");
        Check.bad(2, HEAD + "system S each At { show (@1.12345); show (q); }");
        Check.bad(4, HEAD + "system S each At { show (@q); show (1.12345); }");
    }

    private static void answers() {
        WorldEngine x = new WorldEngine(1);
        Check.due("fault at first", x.fault(0), -1);
        Check.feed(x, HEAD);
        Check.due("text", x.text(5), 1);
        Check.due("make", x.make(0), 0);
        Check.due("step", x.step(), 1);
        Check.feed(x, "  ?");
        Check.due("a fault", x.text(9), -1);
        Check.due("place", x.fault(0), 2);
        Check.due("kind", x.fault(1), 1);
        Check.due("other", x.fault(2), -1);
        Check.due("other", x.fault(-1), -1);
        Check.due("all is as before: tick", x.look(2), 1);
        Check.due("all is as before: entities", x.look(4), 1);
        Check.feed(x, "  ?");
        Check.due("not quiet: nothing is read", x.swap(), -10);
        Check.due("the tape stays", x.look(13), 3);
        Check.yes("end", x.end(0));
        Check.feed(x, HEAD);
        x.seat(2, true);
        x.fall(0);
        x.stand(5);
        x.input(0, 1, 7);
        x.save();
        Check.due("text while not quiet", x.text(6), 1);
        Check.due("no fault", x.fault(0), -1);
        int[] looks = {1, 4, 0, 0, 0, 0, 0, 0, 0, x.look(9), 1, 2, 0, 0, 5};
        for (int what = 0; what < looks.length; what++) {
            Check.due("look " + what, x.look(what), looks[what]);
        }
        Check.due("inputs are gone", x.input(0, 1, 7), 0);
        Check.no("worker 0 is told to fall already", x.fall(0));
    }
}
