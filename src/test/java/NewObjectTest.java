/** Promise 1: a new object. */
final class NewObjectTest {
    public static void main(String[] args) {
        workersAreHeld();
        nothingIsThere();
        Check.close("NewObjectTest");
    }

    private static void workersAreHeld() {
        int[][] asked = {{-2147483648, 1}, {-1, 1}, {0, 1}, {1, 1}, {2, 2}, {7, 7}, {8, 8}, {9, 8}, {2147483647, 8}};
        for (int[] one : asked) {
            WorldEngine x = new WorldEngine(one[0]);
            Check.due("workers of " + one[0], x.look(11), one[1]);
            for (int worker = 0; worker < 8; worker++) {
                Check.due("worker " + worker + " of " + one[0], x.stand(worker) ? 0 : 1, worker < one[1] ? 1 : 0);
            }
        }
    }

    private static void nothingIsThere() {
        WorldEngine x = new WorldEngine(3);
        int[] looks = {0, 0, 0, 0, 0, 0, 0, 0, 0, 0, 0, 3, 0, 0, 1};
        for (int what = 0; what < looks.length; what++) {
            Check.due("look " + what, x.look(what), looks[what]);
        }
        Check.due("step", x.step(), -3);
        Check.due("make", x.make(0), -1);
        Check.due("change", x.change(0, 0, 0), -1);
        Check.due("set", x.set(0, 0, 0, 0), -1);
        Check.due("entity", x.entity(0), -1);
        Check.due("row", x.row(0, 0), -1);
        Check.due("group", x.group(0), -1);
        Check.due("failure", x.failure(0), -1);
        Check.due("pending", x.pending(0, 0), -1);
        Check.due("fault", x.fault(0), -1);
        Check.due("byteOut", x.byteOut(0), -1);
        Check.due("load", x.load(), -2000000);
        Check.no("has", x.has(0, 0));
        Check.missing("get", () -> x.get(0, 0, 0));
        Check.missing("shown", () -> x.shown(0));
        Check.due("save", x.save(), 2 + 2 + 16 + 256 * 5 + 2);
        for (int k = 0; k < 1302; k += k < 40 ? 1 : 7) {
            Check.due("byte " + k, x.byteOut(k), k == 0 ? 87 : k == 1 ? 69 : 0);
        }
        Check.due("input without a text", x.input(0, 1, 5), 0);
    }
}
