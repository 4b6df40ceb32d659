import java.util.NoSuchElementException;
import java.util.Random;

/** Calls with all sorts of arguments in all sorts of states: nothing but what the document names is ever thrown. */
final class RandomTest {
    private static final int[] EDGES = {0, 1, 2, 3, 4, 5, 7, 8, 9, 15, 16, 17, 31, 32, 63, 64, 255, 256, 257, 512, 1302, 65535, 65536,
        1000000000, 2147483646, 2147483647, -1, -2, -3, -10, -128, -129, -256, -65536, -2147483647, -2147483648};
    private static final String[] WORDS = ("component event prefab system after each without writes reads int byte fix bool ref let if "
        + "else while for in near hear spawn drop give take put emit to show fail true false none self tick input draw alive root has "
        + "{ } ( ) , ; . = + - * / % < > ! <= >= == != && || A B C a b c x y P Q E F S T 1 2 0 7 1.5 0.25 99999999999 ?").split(" ");
    private static final String TEXT = "component A { fix x; fix y; int a; } component B { ref b; byte c; bool d; } event E(int p, ref q, byte r); "
        + "prefab P { A(x = 1.5); B; } prefab Q { B; } prefab R { } "
        + "system S each A writes A { A.x = A.x * 1.5 + 0.25; A.a = A.a * 7 + input(draw(4)); while A.a > 100 { A.a = A.a / 3; } } "
        + "system T each A, B reads A { for o in A near (A.x + 1.0) { emit E(int(o.A.x), o, tick) to (o) in (1 + draw(4)); } } "
        + "system U each B writes B { hear E { B.c = B.c + E.r; B.b = E.q; show (E.p); } if draw(9) == 0 { spawn P(A.a = tick, B.b = self); } "
        + "if draw(9) == 1 { drop (B.b); take (B.b) A; } if draw(5) == 2 { give (B.b) A; put (B.b) B.d = true; } let z = 100 / (draw(20)); }";

    public static void main(String[] args) {
        for (int seed = 0; seed < 600; seed++) {
            run(new Random(seed), seed);
        }
        Check.close("RandomTest");
    }

    private static int any(Random r) {
        return r.nextInt(5) == 0 ? r.nextInt() : EDGES[r.nextInt(EDGES.length)];
    }

    private static int near(Random r, int around) {
        return r.nextInt(6) == 0 ? any(r) : around + r.nextInt(5) - 1;
    }

    private static void run(Random r, int seed) {
        WorldEngine x = new WorldEngine(any(r));
        if (r.nextInt(4) != 0) {
            Check.feed(x, TEXT);
            Check.due("text", x.text(r.nextInt()), 3);
            for (int i = r.nextInt(30); i > 0; i--) {
                x.make(r.nextInt(3));
            }
        }
        for (int i = 0; i < 90; i++) {
            int which = r.nextInt(34);
            try {
                call(x, which, r);
            } catch (NoSuchElementException e) {
                Check.yes("only get and shown throw", which == 13 || which == 18);
            } catch (RuntimeException e) {
                Check.yes("run " + seed + " call " + which + " threw " + e, false);
                return;
            }
        }
        Check.yes("confirmed is 0 .. 16 before now", x.look(2) >= x.look(3) && x.look(2) <= x.look(3) + 16);
    }

    private static String nonsense(Random r) {
        if (r.nextInt(3) == 0) {
            int at = r.nextInt(TEXT.length());
            return TEXT.substring(0, at) + WORDS[r.nextInt(WORDS.length)] + TEXT.substring(at + r.nextInt(TEXT.length() - at));
        }
        StringBuilder b = new StringBuilder(r.nextInt(2) == 0 ? TEXT : "");
        for (int i = r.nextInt(20); i > 0; i--) {
            b.append(' ').append(WORDS[r.nextInt(WORDS.length)]);
        }
        return b.toString();
    }

    private static void read(WorldEngine x, Random r) {
        x.end(0);
        Check.feed(x, nonsense(r));
        int got = r.nextBoolean() ? x.swap() : x.text(r.nextInt());
        Check.yes("a count, a fault, or not quiet", got >= -5 || got == -10);
        Check.yes("a fault has a place", got == -10 || (x.fault(1) == -1) == (got >= 0));
    }

    private static void call(WorldEngine x, int which, Random r) {
        int now = x.look(2);
        int entity = r.nextInt(4) == 0 ? any(r) : x.entity(r.nextInt(8));
        switch (which) {
            case 0: x.feed(any(r), any(r), any(r), any(r), any(r)); break;
            case 1: x.end(any(r)); break;
            case 2: case 3: if (r.nextInt(8) == 0) { read(x, r); } break;
            case 4: x.fault(any(r)); break;
            case 5: case 6: case 7: x.step(); break;
            case 8: case 29: case 30: x.input(near(r, 1), near(r, x.look(3) + 1), any(r)); break;
            case 9: x.seat(any(r), r.nextBoolean()); break;
            case 10: x.make(near(r, 1)); break;
            case 11: x.change(near(r, 1), entity, near(r, 1)); break;
            case 12: x.set(entity, near(r, 1), near(r, 1), any(r)); break;
            case 13: x.get(entity, near(r, 1), near(r, 1)); break;
            case 14: x.has(entity, any(r)); break;
            case 15: x.entity(any(r)); break;
            case 16: x.row(near(r, 1), any(r)); break;
            case 17: x.group(any(r)); break;
            case 18: x.shown(any(r)); break;
            case 19: x.failure(any(r)); break;
            case 20: x.pending(any(r), any(r)); break;
            case 21: x.look(any(r)); break;
            case 22: x.sum(); break;
            case 23: x.save(); break;
            case 24: x.bend(r.nextInt(Math.max(1, x.look(9) + 2)), any(r)); break;
            case 25: if (r.nextInt(10) == 0) { x.cut(any(r)); } break;
            case 26: x.byteOut(any(r)); break;
            case 27: x.load(); break;
            case 28: if (r.nextInt(5) == 0) { x.fall(any(r)); } else { x.stand(any(r)); } break;
            case 31: x.pace(any(r)); break;
            default: x.input(0, now + 1, any(r)); x.step();
        }
    }
}
