/** I. TEXTS, TOKENS and blanks: what each of the 256 bytes is, ahead of a text, in a NAME, and in numbers. */
final class ByteTest {
    private static final String HEAD = "component C { int i; fix f; } prefab P { C(";

    public static void main(String[] args) {
        for (char c = 0; c < 256; c++) {
            aheadOfAll(c);
            inName(c);
            inNumber(c);
            behindPoint(c);
        }
        Check.close("ByteTest");
    }

    private static boolean isLetter(char c) {
        return "abcdefghijklmnopqrstuvwxyzABCDEFGHIJKLMNOPQRSTUVWXYZ".indexOf(c) >= 0;
    }

    private static boolean isDigit(char c) {
        return "0123456789".indexOf(c) >= 0;
    }

    private static boolean isBlank(char c) {
        return c == 9 || c == 10 || c == 13 || c == 32;
    }

    /** The text has no fault, or its first one is of kind 1 and stands at this place. */
    private static WorldEngine reads(char c, String text, int place) {
        WorldEngine x = new WorldEngine(1);
        Check.feed(x, text);
        String what = "byte " + (int) c + " in " + text;
        Check.due(what, x.text(0), place < 0 ? 0 : -1);
        Check.due(what + ": place", x.fault(0), place);
        return x;
    }

    private static void aheadOfAll(char c) {
        WorldEngine x = reads(c, c + "component C { }", isBlank(c) || c == '#' ? -1 : 0);
        Check.due("components behind byte " + (int) c, x.look(1), isBlank(c) ? 1 : 0);
    }

    private static void inName(char c) {
        String name = "C" + c;
        String text = "component " + name + "{ } component C { } ";
        if (isLetter(c) || isDigit(c)) {
            Check.due("two names", reads(c, text, -1).look(1), 2);
            Check.bad(3, text + "component @" + name + " { }");
        } else if (isBlank(c)) {
            Check.bad(3, "component C" + c + "{ } component @C { }");
        } else if (c == '#') {
            reads(c, text, text.length());
        } else {
            reads(c, text, c == '{' ? 12 : 11);
        }
    }

    private static void inNumber(char c) {
        String text = HEAD + "i = 1" + c + "); }";
        int at = text.indexOf("1") + 1;
        if (isDigit(c)) {
            value(c, text, 0, 10 + c - '0');
        } else if (isBlank(c)) {
            value(c, text, 0, 1);
        } else if (c == '#') {
            reads(c, text, text.length());
        } else {
            // The comma and the bracket may stand there: it is what follows them that can't.
            reads(c, text, c == ',' || c == ')' ? at + 1 : at);
        }
    }

    private static void behindPoint(char c) {
        if (isDigit(c)) {
            value(c, HEAD + "f = 1." + c + "); }", 1, 65536 + Math.round((c - '0') * 6553.6f));
        } else {
            // Without a digit behind it the point is a sign of its own, which can't stand behind a NUMBER.
            String text = HEAD + "i = 1." + c + "); }";
            reads(c, text, text.indexOf("1.") + 1);
        }
    }

    private static void value(char c, String text, int member, int want) {
        WorldEngine x = reads(c, text, -1);
        Check.due("make", x.make(0), 0);
        Check.due("the number with byte " + (int) c, x.get(0, 0, member), want);
    }
}
