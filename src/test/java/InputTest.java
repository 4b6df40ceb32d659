import java.util.Random;

/** Promises 7, 8, 9 and 18: ticks with inputs that come early, late, or not at all. */
final class InputTest {
    private static final String TEXT = "component C { int i; } prefab P { C; } system S each C writes C "
        + "{ C.i = C.i * 3 + input(0) + 10 * input(1) + 100 * input(2) + tick; show (C.i); }";

    public static void main(String[] args) {
        steps();
        refusals();
        guesses();
        runsAgain();
        seats();
        seatsLate();
        told();
        lateIsAsEarly();
        longAfter();
        Check.close("InputTest");
    }

    private static WorldEngine world() {
        WorldEngine x = Check.world(TEXT, 5, 1);
        Check.due("make", x.make(0), 0);
        return x;
    }

    private static void steps() {
        WorldEngine x = world();
        for (int t = 1; t <= 16; t++) {
            Check.due("step", x.step(), t);
            Check.due("now", x.look(2), t);
            Check.due("confirmed", x.look(3), 0);
        }
        Check.due("16 above confirmed", x.step(), -1);
        x.fall(0);
        Check.due("-1 is ahead of -2", x.step(), -1);
        Check.due("input", x.input(0, 1, 0), 0);
        Check.due("no worker", x.step(), -2);
        x.stand(0);
        Check.due("step", x.step(), 17);
        Check.due("16 above confirmed", x.step(), -1);
        WorldEngine none = new WorldEngine(1);
        Check.due("without a text", none.step(), -3);
        none.fall(0);
        Check.due("-2 is ahead of -3", none.step(), -2);
    }

    private static void refusals() {
        WorldEngine x = world();
        Check.due("no such player", x.input(-1, 1, 0), -1);
        Check.due("no such player", x.input(4, 1, 0), -1);
        Check.due("-1 is ahead of -2", x.input(4, 0, 0), -1);
        Check.due("tick 0", x.input(0, 0, 0), -2);
        Check.due("below", x.input(0, -2147483648, 0), -2);
        Check.due("too far", x.input(0, 17, 0), -2);
        Check.due("far too far", x.input(0, 2147483647, 0), -2);
        Check.due("-2 is ahead of -3", x.input(1, 17, 0), -2);
        Check.due("not on", x.input(1, 1, 0), -3);
        Check.due("the farthest", x.input(0, 16, 9), 0);
        Check.due("it came", x.input(0, 16, 9), -4);
        Check.due("it came with other bits", x.input(0, 16, 8), -4);
        Check.due("the first", x.input(0, 1, 0), 0);
        x.step();
        Check.due("confirmed at once", x.look(3), 1);
        Check.due("confirmed", x.input(0, 1, 0), -2);
        Check.due("one farther", x.input(0, 17, 0), 0);
        Check.due("too far", x.input(0, 18, 0), -2);
    }

    private static void guesses() {
        WorldEngine x = world();
        x.input(0, 1, 4);
        x.input(0, 3, 6);
        int value = 0;
        int[] bits = {4, 4, 6, 6, 6};
        for (int t = 1; t <= 5; t++) {
            x.step();
            value = value * 3 + bits[t - 1] + t;
            Check.due("guess of tick " + t, x.get(0, 0, 0), value);
        }
        Check.due("confirmed", x.look(3), 1);
        Check.due("guessed right", x.input(0, 2, 4), 0);
        Check.due("confirmed up to 3", x.look(3), 3);
        Check.due("none was run again", x.look(12), 0);
        Check.due("the next two are run again", x.input(0, 4, 1), 2);
        Check.due("the last one's guess changed with it", x.get(0, 0, 0), again(4, 4, 6, 1, 1));
        Check.due("it is run again", x.input(0, 5, 7), 1);
        Check.due("value", x.get(0, 0, 0), again(4, 4, 6, 1, 7));
        Check.due("run again", x.look(12), 3);
        Check.due("confirmed", x.look(3), 5);
        x.step();
        Check.due("guessed from what was confirmed", x.get(0, 0, 0), again(4, 4, 6, 1, 7, 7));
    }

    private static int again(int... bits) {
        int value = 0;
        for (int t = 1; t <= bits.length; t++) {
            value = value * 3 + bits[t - 1] + t;
        }
        return value;
    }

    private static void runsAgain() {
        WorldEngine x = world();
        for (int t = 1; t <= 10; t++) {
            x.step();
        }
        Check.due("from tick 4 on", x.input(0, 4, 2), 7);
        Check.due("value", x.get(0, 0, 0), again(0, 0, 0, 2, 2, 2, 2, 2, 2, 2));
        Check.due("a later one first", x.input(0, 8, 0), 3);
        Check.due("value", x.get(0, 0, 0), again(0, 0, 0, 2, 2, 2, 2, 0, 0, 0));
        Check.due("up to the one that is known", x.input(0, 6, 0), 5);
        Check.due("value", x.get(0, 0, 0), again(0, 0, 0, 2, 2, 0, 0, 0, 0, 0));
        Check.due("as guessed", x.input(0, 7, 0), 0);
        Check.due("run again", x.look(12), 15);
        Check.due("now", x.look(2), 10);
        Check.due("confirmed", x.look(3), 0);
        Check.due("for a tick to come", x.input(0, 11, 5), 0);
        x.step();
        Check.due("value", x.get(0, 0, 0), again(0, 0, 0, 2, 2, 0, 0, 0, 0, 0, 5));
    }

    private static void seats() {
        WorldEngine x = world();
        Check.due("at first", x.look(14), 1);
        Check.no("it is so", x.seat(0, true));
        Check.no("it is so", x.seat(1, false));
        Check.no("none such", x.seat(4, true));
        Check.no("none such", x.seat(-1, true));
        Check.yes("on", x.seat(2, true));
        Check.due("bits", x.look(14), 5);
        x.input(0, 1, 1);
        x.step();
        Check.due("not confirmed", x.look(3), 0);
        Check.due("player 2", x.input(2, 1, 3), 1);
        Check.due("confirmed", x.look(3), 1);
        Check.due("value", x.get(0, 0, 0), 302);
        Check.yes("off", x.seat(0, false));
        Check.yes("off", x.seat(2, false));
        x.step();
        Check.due("without players all is known", x.look(3), 2);
        Check.due("their inputs are 0", x.get(0, 0, 0), 908);
        Check.due("not on", x.input(0, 3, 0), -3);
    }

    private static void seatsLate() {
        WorldEngine x = world();
        x.seat(1, true);
        x.step();
        x.seat(1, false);
        x.step();
        Check.due("one of that tick's", x.input(1, 1, 2), 2);
        Check.due("none of that tick's", x.input(1, 2, 2), -3);
        x.seat(1, true);
        Check.due("none of that tick's still", x.input(1, 2, 2), -3);
        Check.due("early", x.input(1, 4, 9), 0);
        Check.due("earliest", x.input(1, 18, 9), 0);
        x.seat(1, false);
        Check.due("not on", x.input(1, 4, 9), -3);
        x.seat(1, true);
        Check.due("what came is forgotten", x.input(1, 4, 8), 0);
        Check.due("what came is forgotten", x.input(1, 18, 8), 0);
        x.step();
        Check.due("what came before counts on", x.get(0, 0, 0), ((20 + 1) * 3 + 2) * 3 + 20 + 3);
        x.step();
        Check.due("value", x.get(0, 0, 0), (((20 + 1) * 3 + 2) * 3 + 20 + 3) * 3 + 80 + 4);
    }

    private static void told() {
        WorldEngine x = world();
        for (int t = 1; t <= 4; t++) {
            x.step();
        }
        Check.due("nothing told", x.look(8), 0);
        Check.missing("nothing told", () -> x.shown(0));
        x.input(0, 2, 1);
        Check.due("nothing told", x.look(8), 0);
        x.input(0, 1, 2);
        Check.due("two told", x.look(8), 2);
        Check.due("the later", x.shown(0), again(2, 1));
        Check.due("the earlier", x.shown(1), again(2));
        Check.missing("no third", () -> x.shown(2));
        x.input(0, 3, 1);
        x.input(0, 4, 7);
        Check.due("told", x.look(8), 4);
        Check.due("as it was run last", x.shown(0), again(2, 1, 1, 7));
        WorldEngine many = Check.world("component C { } prefab P { C; } system S each C { "
            + "show (tick); ".repeat(8) + "}", 0, 1);
        for (int i = 0; i < 4; i++) {
            many.make(0);
        }
        for (int t = 1; t <= 9; t++) {
            Check.tick(many);
        }
        Check.due("told", many.look(8), 288);
        Check.due("the 256th latest", many.shown(255), 2);
        Check.missing("the 257th latest", () -> many.shown(256));
        Check.due("latest", many.shown(0), 9);
    }

    /** However late the inputs come, the world becomes the same, and the same is told. */
    private static void lateIsAsEarly() {
        String text = TEXT + " component D { ref r; int n; } event E(int p, ref w); prefab Q { D; C; } "
            + "system T each D writes D { D.n = D.n + draw(7) + input(1); if input(0) == 1 { spawn Q(D.r = self); } "
            + "if D.n > 20 { drop (self); } hear E { D.n = D.n + E.p; show (D.n); } emit E(2, self) to (D.r) in (1 + draw(3)); } "
            + "system U each C, D { let a = 10 / (input(2) - 1); }";
        for (int seed = 0; seed < 20; seed++) {
            Random r = new Random(seed);
            int[][] bits = new int[3][25];
            for (int[] row : bits) {
                for (int t = 0; t < 25; t++) {
                    row[t] = r.nextInt(3);
                }
            }
            WorldEngine early = Check.world(text, seed, 3);
            WorldEngine late = Check.world(text, seed, 3);
            for (WorldEngine x : new WorldEngine[] {early, late}) {
                x.make(1);
                x.make(1);
                x.seat(1, true);
                x.seat(2, true);
            }
            for (int t = 1; t <= 24; t++) {
                for (int p = 0; p < 3; p++) {
                    early.input(p, t, bits[p][t]);
                }
                early.step();
            }
            comeLate(late, bits, r);
            for (int what : new int[] {2, 3, 4, 5, 6, 7, 8}) {
                Check.due("late look " + what, late.look(what), early.look(what));
            }
            Check.due("late sum", late.sum(), early.sum());
            int told = Math.min(256, early.look(8));
            for (int k = 0; k < told; k++) {
                Check.due("late shown " + k, late.shown(k), early.shown(k));
            }
        }
    }

    /** Each input comes up to 3 ticks early or up to 12 late. */
    private static void comeLate(WorldEngine x, int[][] bits, Random r) {
        int[][] when = new int[3][25];
        for (int[] row : when) {
            for (int t = 1; t <= 24; t++) {
                row[t] = Math.max(0, t - 3 + r.nextInt(16));
            }
        }
        for (int now = 0; now <= 40; now++) {
            if (now > 0 && now <= 24) {
                Check.due("step", x.step(), now);
            }
            for (int i = 0; i < 72; i++) {
                int p = i / 24;
                int t = 1 + i * 17 % 24;
                if (when[p][t] == now) {
                    Check.yes("it comes", x.input(p, t, bits[p][t]) >= 0);
                }
            }
        }
    }

    /** What came for a tick is not taken for that of a much later one. */
    private static void longAfter() {
        WorldEngine x = world();
        for (int t = 1; t <= 80; t++) {
            Check.due("input " + t, x.input(0, t, t & 1), 0);
            Check.due("step", x.step(), t);
            Check.due("confirmed", x.look(3), t);
        }
        for (int t = 81; t <= 96; t++) {
            Check.due("step", x.step(), t);
        }
        Check.due("not confirmed", x.look(3), 80);
        for (int t = 81; t <= 96; t++) {
            Check.due("as guessed", x.input(0, t, 0), 0);
        }
        Check.due("confirmed", x.look(3), 96);
    }
}
