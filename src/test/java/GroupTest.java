/** Promises 16 and 17: the rows and the groups of systems. */
final class GroupTest {
    private static final String HEAD = "component A { int a; } component B { int b; } component C { int c; }\n"
        + "prefab P { A; } prefab Q { A; B; } prefab R { A; B; C; }\n";

    public static void main(String[] args) {
        groups();
        rows();
        Check.close("GroupTest");
    }

    private static void grouped(String systems, int... want) {
        WorldEngine x = Check.world(HEAD + systems, 0, want.length);
        for (int s = 0; s < want.length; s++) {
            Check.due("group " + s + " of " + systems, x.group(s), want[s]);
        }
        Check.due("groups of " + systems, x.look(10), want.length == 0 ? 0 : want[want.length - 1] + 1);
        Check.due("below", x.group(-1), -1);
        Check.due("beyond", x.group(want.length), -1);
        Check.due("far beyond", x.group(2147483647), -1);
    }

    private static void groups() {
        grouped("");
        grouped("system S each A { }", 0);
        grouped("system S each A writes A { }", 0);
        grouped("system S each A { } system T each A reads B { } system U each A, B reads A { }", 0, 0, 0);
        grouped("system S each A writes A { } system T each A { }", 0, 1);
        grouped("system S each A { } system T each A writes A { }", 0, 1);
        grouped("system S each A writes A { } system T each A writes A { }", 0, 1);
        grouped("system S each A writes A { } system T each B reads A { }", 0, 1);
        grouped("system S each B reads A { } system T each A writes A { }", 0, 1);
        grouped("system S each A writes A { } system T each B without A writes B { }", 0, 0);
        grouped("system S each A writes A { } system T each B writes B { } system U each C reads A { }", 0, 0, 1);
        grouped("system S each A writes A { } system T each A { } system U each A { }", 0, 1, 1);
        grouped("system S each A { } system T after S each B { } system U each C { }", 0, 1, 1);
        grouped("system S each A { } system T after S each B { } system U after S each C { }", 0, 1, 1);
        grouped("system S each A { } system T after S each B { } system U after S, T each C { }", 0, 1, 2);
        grouped("system S each A { } system T after T each B { }", 0, 0);
        grouped("system S each A writes A { } system T each B { } system U each B, A { } system V each B writes B { }",
            0, 0, 1, 2);
    }

    private static void rows() {
        WorldEngine x = Check.world(HEAD + "system S each A { } system T each A, B without C { } system U each C { } ", 0, 3);
        for (int prefab = 0; prefab < 3; prefab++) {
            x.make(prefab);
        }
        x.make(1);
        x.change(0, 0, 0);
        x.make(0);
        int[][] want = {{256, 1, 2, 3, -1}, {1, 3, -1}, {2, -1}};
        for (int s = 0; s < 3; s++) {
            for (int k = 0; k < want[s].length; k++) {
                Check.due("row " + s + " " + k, x.row(s, k), want[s][k]);
            }
            Check.due("below", x.row(s, -1), -1);
            Check.due("far below", x.row(s, -2147483648), -1);
            Check.due("far beyond", x.row(s, 2147483647), -1);
        }
        Check.due("no such system", x.row(3, 0), -1);
        Check.due("no such system", x.row(-1, 0), -1);
    }
}
