/** Promises 28 to 30: workers fall and stand, and nothing else hangs on them. */
final class WorkerTest {
    private static final String TEXT = "component C { int i; } prefab P { C; } system A each C writes C { C.i = C.i + draw(100); } "
        + "system B each C { show (C.i); spawn P; } system D each C { show (self); }";

    public static void main(String[] args) {
        falls();
        stands();
        noneLeft();
        runsAgain();
        nothingHangsOnThem();
        Check.close("WorkerTest");
    }

    private static void falls() {
        WorldEngine x = Check.world(TEXT, 0, 3);
        x.stand(1);
        x.stand(7);
        Check.due("up", x.look(11), 3);
        Check.no("not up", x.fall(2));
        Check.no("none such", x.fall(8));
        Check.no("none such", x.fall(-1));
        Check.no("none such", x.fall(32));
        Check.no("none such", x.fall(-2147483648));
        Check.yes("falls", x.fall(7));
        Check.no("told already", x.fall(7));
        Check.due("still up", x.look(11), 3);
        Check.due("step", x.step(), 1);
        Check.due("down", x.look(11), 2);
        Check.no("not up", x.fall(7));
        Check.due("step", x.step(), 2);
        Check.due("no more fall", x.look(11), 2);
    }

    private static void stands() {
        WorldEngine x = Check.world(TEXT, 0, 3);
        Check.no("it is up", x.stand(0));
        Check.no("none such", x.stand(8));
        Check.no("none such", x.stand(-1));
        Check.no("none such", x.stand(31));
        Check.yes("stands", x.stand(3));
        Check.due("up", x.look(11), 2);
        Check.no("it is up", x.stand(3));
        x.fall(3);
        Check.yes("falls no more", x.stand(3));
        Check.no("it is up", x.stand(3));
        x.step();
        Check.due("up", x.look(11), 2);
        x.fall(3);
        x.step();
        Check.due("down", x.look(11), 1);
        Check.yes("stands again", x.stand(3));
        Check.due("up", x.look(11), 2);
    }

    private static void noneLeft() {
        WorldEngine x = Check.world(TEXT, 0, 3);
        x.stand(1);
        x.fall(0);
        x.fall(1);
        Check.due("all fall in it", x.step(), -2);
        Check.due("all are up still", x.look(11), 2);
        Check.due("now", x.look(2), 0);
        Check.yes("falls no more", x.stand(1));
        Check.due("step", x.step(), 1);
        Check.due("up", x.look(11), 1);
        x.fall(1);
        Check.due("the last falls in it", x.step(), -2);
        Check.yes("another stands", x.stand(5));
        Check.due("step", x.step(), 2);
        Check.due("up", x.look(11), 1);
    }

    /** Ticks that are run again are not run by step(): none falls in them. */
    private static void runsAgain() {
        WorldEngine x = Check.world(TEXT, 0, 3);
        x.stand(1);
        x.step();
        x.fall(1);
        Check.due("run again", x.input(0, 1, 3), 1);
        Check.due("up", x.look(11), 2);
        x.step();
        Check.due("up", x.look(11), 1);
    }

    private static void nothingHangsOnThem() {
        WorldEngine plain = Check.world(TEXT, 4, 3);
        WorldEngine other = new WorldEngine(8);
        Check.feed(other, TEXT);
        other.text(4);
        for (int i = 0; i < 3; i++) {
            plain.make(0);
            other.make(0);
        }
        for (int t = 0; t < 7; t++) {
            other.pace(t * 1000003 - 5);
            other.fall(t);
            Check.due("step", other.step(), plain.step());
            Check.due("sum", other.sum(), plain.sum());
        }
        for (int t = 1; t <= 7; t++) {
            other.pace(-2147483648);
            Check.due("input", other.input(0, t, t), plain.input(0, t, t));
            Check.due("sum", other.sum(), plain.sum());
        }
        Check.due("told", other.look(8), plain.look(8));
        for (int k = 0; k < plain.look(8); k++) {
            Check.due("shown", other.shown(k), plain.shown(k));
        }
    }
}
