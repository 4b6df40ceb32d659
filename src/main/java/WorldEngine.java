import java.util.Arrays;
import java.util.NoSuchElementException;

/** An engine for worlds of entities: texts, ticks, late inputs, saved worlds. */
public final class WorldEngine {
    public static final int NONE = -1;

    private static final int NOT_QUIET = -10;
    private static final int MOST_WORKERS = 8;
    private static final int LAST_TICK = 1000000000;

    private final Lexer lexer;
    private final Reader reader;
    private final Play play;
    private final Store store;
    private Program program;
    private Program spare;
    private boolean hasText;
    private int up;
    private int falling;

    public WorldEngine(int workers) {
        lexer = new Lexer();
        reader = new Reader(lexer);
        play = new Play();
        store = new Store();
        program = new Program();
        spare = new Program();
        hasText = false;
        up = (1 << Math.max(1, Math.min(MOST_WORKERS, workers))) - 1;
        falling = 0;
    }

    public boolean feed(int a, int b, int c, int d, int e) {
        if (!lexer.hasRoom(20)) {
            return false;
        }
        lexer.addInt(a);
        lexer.addInt(b);
        lexer.addInt(c);
        lexer.addInt(d);
        lexer.addInt(e);
        return true;
    }

    public boolean end(int n) {
        if (n < 0 || n > lexer.length) {
            return false;
        }
        lexer.length = n;
        return true;
    }

    public int text(int seed) {
        if (!reader.readAll(spare)) {
            return -lexer.faultKind;
        }
        exchangePrograms();
        play.begin(seed, program.components.total());
        return program.systemCount;
    }

    public int fault(int what) {
        if (lexer.faultKind == 0) {
            return NONE;
        }
        if (what == 0) {
            return lexer.faultPlace;
        }
        return what == 1 ? lexer.faultKind : NONE;
    }

    public int swap() {
        if (!play.isQuiet()) {
            return NOT_QUIET;
        }
        if (!reader.readAll(spare)) {
            return -lexer.faultKind;
        }
        exchangePrograms();
        play.carry(spare, program);
        return program.systemCount;
    }

    private void exchangePrograms() {
        Program read = spare;
        spare = program;
        program = read;
        hasText = true;
    }

    public int step() {
        if (play.isFullyAhead()) {
            return -1;
        }
        if ((up & ~falling) == 0) {
            return -2;
        }
        if (!hasText) {
            return -3;
        }
        if (play.now.tick >= LAST_TICK) {
            return -4;
        }
        play.goOn(program);
        up &= ~falling;
        falling = 0;
        return play.now.tick;
    }

    public int input(int player, int tick, int bits) {
        int refusal = play.refusal(player, tick);
        if (refusal != 0) {
            return refusal;
        }
        return play.accept(program, player, tick, bits);
    }

    public boolean seat(int player, boolean on) {
        return play.place(player, on);
    }

    public int make(int prefab) {
        if (!play.isQuiet()) {
            return NOT_QUIET;
        }
        if (prefab < 0 || prefab >= program.prefabCount) {
            return -1;
        }
        int place = play.now.bear(program, prefab);
        return place < 0 ? -2 : play.now.numberAt(place);
    }

    public int change(int how, int entity, int component) {
        if (!play.isQuiet()) {
            return NOT_QUIET;
        }
        World world = play.now;
        int place = world.placeOf(entity);
        if (how < 0 || how > 2 || place < 0) {
            return -1;
        }
        if (how == 0) {
            world.remove(place);
            return 0;
        }
        if (component < 0 || component >= program.components.count) {
            return -1;
        }
        if (world.owns(place, component) == (how == 1)) {
            return -2;
        }
        if (how == 1) {
            world.giveAt(program, place, component);
        } else {
            world.takeAt(place, component);
        }
        return 0;
    }

    public int set(int entity, int component, int member, int v) {
        if (!play.isQuiet()) {
            return NOT_QUIET;
        }
        int offset = offsetOf(entity, component, member);
        if (offset < 0) {
            return -1;
        }
        int kind = program.components.members[offset].kind;
        int value = v;
        if (kind == Named.BYTE) {
            value = Math.max(-128, Math.min(127, v));
        } else if (kind == Named.BOOL) {
            value = v & 1;
        } else if (kind == Named.REF) {
            value = Math.max(-1, v);
        }
        play.now.write(play.now.placeOf(entity), offset, value);
        return 0;
    }

    public int get(int entity, int component, int member) throws NoSuchElementException {
        int offset = offsetOf(entity, component, member);
        if (offset < 0) {
            throw new NoSuchElementException("no such member");
        }
        return play.now.read(play.now.placeOf(entity), offset);
    }

    private int offsetOf(int entity, int component, int member) {
        if (!has(entity, component)) {
            return -1;
        }
        Shapes shapes = program.components;
        if (member < 0 || member >= shapes.sizeOf(component)) {
            return -1;
        }
        return shapes.first[component] + member;
    }

    public boolean has(int entity, int component) {
        int place = play.now.placeOf(entity);
        if (place < 0 || component < 0 || component >= program.components.count) {
            return false;
        }
        return play.now.owns(place, component);
    }

    public int entity(int k) {
        return play.now.matchAt(0, 0, k);
    }

    public int row(int system, int k) {
        if (system < 0 || system >= program.systemCount) {
            return NONE;
        }
        return play.now.matchAt(program.each[system], program.without[system], k);
    }

    public int group(int system) {
        if (system < 0 || system >= program.systemCount) {
            return NONE;
        }
        return program.group[system];
    }

    public int shown(int k) throws NoSuchElementException {
        if (k < 0 || k >= Math.min(play.toldCount, Play.TOLD)) {
            throw new NoSuchElementException("nothing was shown there");
        }
        return play.told[(play.toldCount - 1 - k) & (Play.TOLD - 1)];
    }

    public int failure(int what) {
        World world = play.now;
        if (world.failWhy == 0) {
            return NONE;
        }
        switch (what) {
            case 0:
                return world.failSystem;
            case 1:
                return world.failEntity;
            case 2:
                return world.failWhy;
            default:
                return NONE;
        }
    }

    public int pending(int k, int what) {
        World world = play.now;
        if (k < 0 || k >= world.pendingCount || what < 0 || what >= World.EVENT_WIDTH) {
            return NONE;
        }
        int event = world.pending[k * World.EVENT_WIDTH];
        if (what >= 3 && what - 3 >= program.events.sizeOf(event)) {
            return NONE;
        }
        return world.pending[k * World.EVENT_WIDTH + what];
    }

    public int look(int what) {
        switch (what) {
            case 0:
                return program.systemCount;
            case 1:
                return program.components.count;
            case 2:
                return play.now.tick;
            case 3:
                return play.confirmed;
            case 4:
                return play.now.entityCount();
            case 5:
                return play.now.pendingCount;
            case 6:
                return play.now.fails;
            case 7:
                return play.now.passed;
            case 8:
                return play.toldCount;
            case 9:
                return store.length;
            case 10:
                return program.groupCount;
            case 11:
                return Integer.bitCount(up);
            case 12:
                return play.again;
            case 13:
                return lexer.length;
            case 14:
                return play.on;
            default:
                return NONE;
        }
    }

    public int sum() {
        return store.write(program, play.now, false);
    }

    public int save() {
        if (!play.isQuiet()) {
            return NOT_QUIET;
        }
        store.write(program, play.now, true);
        return store.length;
    }

    public boolean bend(int k, int mask) {
        if (k < 0 || k >= store.length) {
            return false;
        }
        store.out[k] ^= (byte) mask;
        return true;
    }

    public boolean cut(int n) {
        if (n < 0 || n > store.length) {
            return false;
        }
        store.length = n;
        return true;
    }

    public int byteOut(int k) {
        if (k < 0 || k >= store.length) {
            return NONE;
        }
        return store.out[k] & 255;
    }

    public int load() {
        if (!play.isQuiet()) {
            return -1000000;
        }
        if (!hasText) {
            return -2000000;
        }
        World scratch = play.scratch();
        if (!store.restore(program, scratch)) {
            return -1 - store.wrongAt;
        }
        play.adopt(scratch);
        return 0;
    }

    public boolean fall(int worker) {
        if (!isWorker(worker) || (up >> worker & 1) == 0 || (falling >> worker & 1) == 1) {
            return false;
        }
        falling |= 1 << worker;
        return true;
    }

    public boolean stand(int worker) {
        if (!isWorker(worker)) {
            return false;
        }
        if (((up & ~falling) >> worker & 1) == 1) {
            return false;
        }
        up |= 1 << worker;
        falling &= ~(1 << worker);
        return true;
    }

    private boolean isWorker(int worker) {
        return worker >= 0 && worker < MOST_WORKERS;
    }

    public void pace(int seed) {
        // Rows of a group can't see one another, so no pace can show in an answer.
    }

    /** The tape, the tokens of the text on it, and the fault that reading met. */
    private static final class Lexer {
        static final int ROOM = 6000;
        static final int LONGEST_NAME = 12;

        static final int END = 0;
        static final int BAD = 1;
        static final int NAME = 2;
        static final int NUMBER = 3;
        static final int FIXED = 4;

        static final int OPEN = 10;
        static final int CLOSE = 11;
        static final int LEFT = 12;
        static final int RIGHT = 13;
        static final int COMMA = 14;
        static final int SEMICOLON = 15;
        static final int POINT = 16;
        static final int GIVES = 17;
        static final int PLUS = 18;
        static final int MINUS = 19;
        static final int TIMES = 20;
        static final int OVER = 21;
        static final int REST = 22;
        static final int LESS = 23;
        static final int MORE = 24;
        static final int NOT = 25;
        static final int AT_MOST = 26;
        static final int AT_LEAST = 27;
        static final int SAME = 28;
        static final int OTHER = 29;
        static final int BOTH = 30;
        static final int EITHER = 31;

        static final int COMPONENT = 40;
        static final int EVENT = 41;
        static final int PREFAB = 42;
        static final int SYSTEM = 43;
        static final int AFTER = 44;
        static final int EACH = 45;
        static final int WITHOUT = 46;
        static final int WRITES = 47;
        static final int READS = 48;
        static final int INT = 49;
        static final int FIX = 51;
        static final int REF = 53;
        static final int LET = 54;
        static final int IF = 55;
        static final int ELSE = 56;
        static final int WHILE = 57;
        static final int FOR = 58;
        static final int IN = 59;
        static final int NEAR = 60;
        static final int HEAR = 61;
        static final int SPAWN = 62;
        static final int DROP = 63;
        static final int GIVE = 64;
        static final int TAKE = 65;
        static final int PUT = 66;
        static final int EMIT = 67;
        static final int TO = 68;
        static final int SHOW = 69;
        static final int FAIL = 70;
        static final int TRUE = 71;
        static final int FALSE = 72;
        static final int NONE = 73;
        static final int SELF = 74;
        static final int TICK = 75;
        static final int INPUT = 76;
        static final int DRAW = 77;
        static final int ALIVE = 78;
        static final int ROOT = 79;
        static final int HAS = 80;

        private static final String SIGNS = "{}(),;.=+-*/%<>!";
        // In the order of the tokens from COMPONENT on, each with one blank behind it.
        private static final String KEPT = "component event prefab system after each without writes reads int byte fix bool ref let if else while for in near hear spawn drop give take put emit to show fail true false none self tick input draw alive root has ";
        private static final int KEPT_COUNT = 41;

        final byte[] tape;
        int length;
        int token;
        int place;
        int faultKind;
        int faultPlace;
        private final int[] kinds;
        private final int[] places;
        private final int[] values;
        private final boolean[] over;
        private int count;
        private int at;
        private final int[] starts;

        Lexer() {
            tape = new byte[ROOM];
            kinds = new int[ROOM + 1];
            places = new int[ROOM + 1];
            values = new int[ROOM + 1];
            over = new boolean[ROOM + 1];
            starts = new int[KEPT_COUNT + 1];
            int word = 0;
            for (int i = 0; i < KEPT.length(); i++) {
                if (KEPT.charAt(i) == ' ' && word < KEPT_COUNT) {
                    word++;
                    starts[word] = i + 1;
                }
            }
        }

        boolean hasRoom(int bytes) {
            return length <= ROOM - bytes;
        }

        void addInt(int v) {
            for (int shift = 24; shift >= 0; shift -= 8) {
                if (length < ROOM) {
                    tape[length] = (byte) (v >> shift);
                    length++;
                }
            }
        }

        /** All tokens are found first: what stands behind a bad byte can't be met. */
        void begin() {
            count = 0;
            faultKind = 0;
            faultPlace = 0;
            boolean good = true;
            int i = behindBlanks(0);
            for (int turn = 0; turn < ROOM && good && i < length; turn++) {
                i = behindBlanks(behindToken(i));
                good = count > 0 && kinds[count - 1] != BAD;
            }
            if (good) {
                note(END, length, 0, false);
            }
            at = 0;
            token = kinds[0];
            place = places[0];
        }

        private int byteAt(int i) {
            return i < length ? tape[i] & 255 : 0;
        }

        private int behindBlanks(int from) {
            boolean remark = false;
            for (int i = from; i < length; i++) {
                int c = byteAt(i);
                if (c == '#') {
                    remark = true;
                } else if (c == 10) {
                    remark = false;
                } else if (!remark && c != 9 && c != 13 && c != 32) {
                    return i;
                }
            }
            return length;
        }

        private int behindToken(int i) {
            int c = byteAt(i);
            if (isLetter(c)) {
                return behindName(i);
            }
            if (isDigit(c)) {
                return behindNumber(i);
            }
            return behindSign(i);
        }

        private static boolean isLetter(int c) {
            return c >= 'a' && c <= 'z' || c >= 'A' && c <= 'Z';
        }

        private static boolean isDigit(int c) {
            return c >= '0' && c <= '9';
        }

        private int behindName(int from) {
            int i = from;
            while (i < length && (isLetter(byteAt(i)) || isDigit(byteAt(i)))) {
                i++;
            }
            int size = i - from;
            note(wordOf(from, size), from, size, size > LONGEST_NAME);
            return i;
        }

        private int wordOf(int from, int size) {
            for (int word = 0; word < KEPT_COUNT; word++) {
                if (starts[word + 1] - 1 - starts[word] == size) {
                    int same = 0;
                    while (same < size && byteAt(from + same) == KEPT.charAt(starts[word] + same)) {
                        same++;
                    }
                    if (same == size) {
                        return COMPONENT + word;
                    }
                }
            }
            return NAME;
        }

        private int behindNumber(int from) {
            long whole = 0;
            int i = from;
            for (; i < length && isDigit(byteAt(i)); i++) {
                whole = Math.min(whole * 10 + byteAt(i) - '0', 1L << 40);
            }
            if (byteAt(i) != '.' || !isDigit(byteAt(i + 1))) {
                boolean large = whole > Integer.MAX_VALUE;
                note(NUMBER, from, large ? 0 : (int) whole, large);
                return i;
            }
            long part = 0;
            long scale = 1;
            int digits = 0;
            for (i++; i < length && isDigit(byteAt(i)); i++) {
                digits++;
                if (digits <= 4) {
                    part = part * 10 + byteAt(i) - '0';
                    scale *= 10;
                }
            }
            boolean large = whole > 32767 || digits > 4;
            long nearest = (whole << 16) + (part * 65536 + scale / 2) / Math.max(1, scale);
            note(FIXED, from, large ? 0 : (int) nearest, large);
            return i;
        }

        private int behindSign(int i) {
            int c = byteAt(i);
            int next = i + 1 < length ? byteAt(i + 1) : 0;
            int kind = BAD;
            if (next == '=' && (c == '<' || c == '>' || c == '=' || c == '!')) {
                kind = c == '<' ? AT_MOST : c == '>' ? AT_LEAST : c == '=' ? SAME : OTHER;
            } else if (next == c && (c == '&' || c == '|')) {
                kind = c == '&' ? BOTH : EITHER;
            } else if (SIGNS.indexOf((char) c) >= 0) {
                note(OPEN + SIGNS.indexOf((char) c), i, 0, false);
                return i + 1;
            }
            note(kind, i, 0, false);
            return i + 2;
        }

        private void note(int kind, int where, int value, boolean tooMuch) {
            if (count < kinds.length) {
                kinds[count] = kind;
                places[count] = where;
                values[count] = value;
                over[count] = tooMuch;
                count++;
            }
        }

        void advance() {
            if (at + 1 < count) {
                at++;
                token = kinds[at];
                place = places[at];
            }
        }

        void refuse(int kind, int where) {
            faultKind = kind;
            faultPlace = where;
            throw new IllegalStateException("the text has a fault");
        }

        void take(int wanted) {
            if (token != wanted) {
                refuse(1, place);
            }
            advance();
        }

        String takeName() {
            if (token != NAME || over[at]) {
                faultKind = token != NAME ? 1 : 2;
                faultPlace = place;
                throw new IllegalStateException("no name that may stand here");
            }
            char[] signs = new char[Math.max(0, Math.min(LONGEST_NAME, values[at]))];
            for (int i = 0; i < signs.length && place + i < length; i++) {
                signs[i] = (char) (tape[place + i] & 255);
            }
            at = Math.min(at + 1, Math.max(0, count - 1));
            token = kinds[at];
            place = places[at];
            return new String(signs);
        }

        /** The value of the NUMBER or FIX NUMBER that stands here. */
        int takeValue() {
            if (over[at]) {
                refuse(2, place);
            }
            int value = values[at];
            advance();
            return value;
        }
    }

    /** A NAME that is told, with what it stands for. */
    private static final class Named {
        static final int COMPONENT = 0;
        static final int EVENT = 1;
        static final int PREFAB = 2;
        static final int SYSTEM = 3;
        static final int MEMBER = 4;
        static final int LOCAL = 5;
        // A for's LOCAL, which can't be given another value.
        static final int LOOPED = 6;

        static final int INT = 0;
        static final int BYTE = 1;
        static final int FIX = 2;
        static final int BOOL = 3;
        static final int REF = 4;

        String name;
        int sort;
        int number;
        int kind;

        Named() {
            name = "";
        }

        void tell(String newName, int newSort, int newNumber, int newKind) {
            name = newName;
            sort = newSort;
            number = newNumber;
            kind = newKind;
        }

        boolean isLocal() {
            return sort == LOCAL || sort == LOOPED;
        }

        static Named[] rowOf(int size) {
            Named[] made = new Named[Math.max(0, size)];
            for (int i = 0; i < made.length; i++) {
                made[i] = new Named();
            }
            return made;
        }
    }

    /** The components, or the events, of a text, with their members in one row. */
    private static final class Shapes {
        final Named[] heads;
        final Named[] members;
        final int[] first;
        int count;

        Shapes(int mostHeads, int mostMembers) {
            heads = Named.rowOf(mostHeads);
            members = Named.rowOf(mostMembers);
            first = new int[Math.max(0, mostHeads) + 1];
        }

        void clear() {
            count = 0;
            first[0] = 0;
        }

        void open(String name) {
            if (count < heads.length) {
                heads[count].tell(name, Named.COMPONENT, count, Named.INT);
                first[count + 1] = first[count];
                count++;
            }
        }

        void addMember(String name, int kind) {
            int offset = first[count];
            if (count > 0 && offset < members.length) {
                members[offset].tell(name, Named.MEMBER, offset - first[count - 1], kind);
                first[count] = offset + 1;
            }
        }

        int total() {
            return first[count];
        }

        int sizeOf(int head) {
            return head < 0 || head >= count ? 0 : first[head + 1] - first[head];
        }

        int headNamed(String name) {
            for (int head = 0; head < count; head++) {
                if (heads[head].name.equals(name)) {
                    return head;
                }
            }
            return -1;
        }

        int memberNamed(int head, String name) {
            if (head < 0 || head >= count) {
                return -1;
            }
            for (int offset = first[head]; offset < first[head + 1]; offset++) {
                if (members[offset].name.equals(name)) {
                    return offset;
                }
            }
            return -1;
        }

        boolean sameKinds(int head, Shapes others, int other) {
            int size = sizeOf(head);
            if (size != others.sizeOf(other)) {
                return false;
            }
            for (int i = 0; i < size; i++) {
                if (members[first[head] + i].kind != others.members[others.first[other] + i].kind) {
                    return false;
                }
            }
            return true;
        }
    }

    /** What a text declares, with the code of its systems. */
    private static final class Program {
        static final int MOST = 16;
        static final int MOST_EVENTS = 8;
        static final int MOST_MEMBERS = 48;
        // All that a text may declare, and the LOCALS that may be visible.
        static final int MOST_KNOWN = 3 * MOST + MOST_EVENTS + 12;
        // A text of 6000 bytes makes less than two ints of code for each byte.
        static final int MOST_CODE = 12000;

        final Named[] known;
        int knownCount;
        final Shapes components;
        final Shapes events;
        int prefabCount;
        final int[] prefabParts;
        final int[] prefabValues;
        int systemCount;
        final int[] after;
        final int[] each;
        final int[] without;
        final int[] writes;
        final int[] reads;
        final int[] start;
        final int[] group;
        int groupCount;
        final int[] code;
        int codeSize;

        Program() {
            known = Named.rowOf(MOST_KNOWN);
            components = new Shapes(MOST, MOST_MEMBERS);
            events = new Shapes(MOST_EVENTS, 4 * MOST_EVENTS);
            prefabParts = new int[MOST];
            prefabValues = new int[MOST * MOST_MEMBERS];
            after = new int[MOST];
            each = new int[MOST];
            without = new int[MOST];
            writes = new int[MOST];
            reads = new int[MOST];
            start = new int[MOST];
            group = new int[MOST];
            code = new int[MOST_CODE];
        }

        void clear() {
            knownCount = 0;
            components.clear();
            events.clear();
            prefabCount = 0;
            systemCount = 0;
            groupCount = 0;
            codeSize = 0;
        }

        Named find(String name) {
            for (int i = 0; i < knownCount; i++) {
                if (known[i].name.equals(name)) {
                    return known[i];
                }
            }
            return null;
        }

        void tell(String name, int sort, int number, int kind) {
            if (knownCount < MOST_KNOWN) {
                known[knownCount].tell(name, sort, number, kind);
                knownCount++;
            }
        }

        /** The latest NAMES, which are LOCALS of a block that ends, are known no more. */
        void forget(int names) {
            knownCount = Math.max(0, knownCount - names);
        }

        int add(int v) {
            if (codeSize < MOST_CODE) {
                code[codeSize] = v;
                codeSize++;
            }
            return codeSize - 1;
        }

        void aim(int where) {
            if (where >= 0 && where < codeSize) {
                code[where] = codeSize;
            }
        }

        int firstValue(int offset) {
            return components.members[offset].kind == Named.REF ? -1 : 0;
        }

        /** Joins the latest system to the group ahead, or begins one with it. */
        void settleGroup() {
            int latest = systemCount - 1;
            boolean alone = latest == 0;
            for (int s = 0; s < latest; s++) {
                if (group[s] == groupCount - 1 && isApart(latest, s)) {
                    alone = true;
                }
            }
            if (alone) {
                groupCount++;
            }
            group[latest] = groupCount - 1;
        }

        private boolean isApart(int later, int s) {
            int touchedBefore = each[s] | writes[s] | reads[s];
            int touchedLater = each[later] | writes[later] | reads[later];
            return (after[later] >> s & 1) == 1
                || (writes[later] & touchedBefore) != 0
                || (writes[s] & touchedLater) != 0;
        }
    }

    /** Reads a text's declarations into a program. */
    private static final class Reader {
        private final Lexer lexer;
        private final Body body;
        private Program program;

        Reader(Lexer lexer) {
            this.lexer = lexer;
            body = new Body(lexer);
        }

        /** Whether the tape was a text without a fault; the tape is empty behind it. */
        boolean readAll(Program target) {
            program = target;
            program.clear();
            lexer.begin();
            boolean good = true;
            try {
                for (int turn = 0; turn <= Lexer.ROOM && lexer.token != Lexer.END; turn++) {
                    switch (lexer.token) {
                        case Lexer.COMPONENT:
                            readComponent();
                            break;
                        case Lexer.EVENT:
                            readEvent();
                            break;
                        case Lexer.PREFAB:
                            readPrefab();
                            break;
                        case Lexer.SYSTEM:
                            readHead();
                            body.open(program);
                            body.block();
                            program.add(Row.HALT);
                            break;
                        default:
                            lexer.refuse(1, lexer.place);
                    }
                }
            } catch (IllegalStateException fault) {
                good = false;
            }
            lexer.length = 0;
            return good;
        }

        private void beginOne(int count, int most) {
            if (count >= most) {
                lexer.refuse(2, lexer.place);
            }
            lexer.advance();
        }

        private String declare(int sort, int number) {
            int place = lexer.place;
            String name = lexer.takeName();
            if (program.find(name) != null) {
                lexer.refuse(3, place);
            }
            program.tell(name, sort, number, Named.INT);
            return name;
        }

        private Named known(String name, int place) {
            Named found = program.find(name);
            if (found == null) {
                lexer.refuse(4, place);
            }
            return found;
        }

        private void readComponent() {
            Shapes shapes = program.components;
            beginOne(shapes.count, Program.MOST);
            shapes.open(declare(Named.COMPONENT, shapes.count));
            lexer.take(Lexer.OPEN);
            for (int turn = 0; turn <= 8 && lexer.token != Lexer.CLOSE; turn++) {
                readMember(shapes, 8);
                lexer.take(Lexer.SEMICOLON);
            }
            lexer.take(Lexer.CLOSE);
        }

        private void readEvent() {
            Shapes shapes = program.events;
            beginOne(shapes.count, Program.MOST_EVENTS);
            shapes.open(declare(Named.EVENT, shapes.count));
            lexer.take(Lexer.LEFT);
            if (lexer.token != Lexer.RIGHT) {
                readMember(shapes, 4);
                for (int turn = 0; turn <= 4 && lexer.token == Lexer.COMMA; turn++) {
                    lexer.advance();
                    readMember(shapes, 4);
                }
            }
            lexer.take(Lexer.RIGHT);
            lexer.take(Lexer.SEMICOLON);
        }

        private void readMember(Shapes shapes, int most) {
            int kind = lexer.token - Lexer.INT;
            if (kind < Named.INT || kind > Named.REF) {
                lexer.refuse(1, lexer.place);
            }
            int head = shapes.count - 1;
            if (shapes.sizeOf(head) >= most || shapes.total() >= shapes.members.length) {
                lexer.refuse(2, lexer.place);
            }
            lexer.advance();
            int place = lexer.place;
            String name = lexer.takeName();
            if (shapes.memberNamed(head, name) >= 0) {
                lexer.refuse(3, place);
            }
            shapes.addMember(name, kind);
        }

        private void readPrefab() {
            beginOne(program.prefabCount, Program.MOST);
            int prefab = program.prefabCount;
            declare(Named.PREFAB, prefab);
            program.prefabCount = prefab + 1;
            program.prefabParts[prefab] = 0;
            int total = program.components.total();
            for (int offset = 0; offset < total; offset++) {
                program.prefabValues[prefab * Program.MOST_MEMBERS + offset] = program.firstValue(offset);
            }
            lexer.take(Lexer.OPEN);
            for (int turn = 0; turn <= 8 && lexer.token != Lexer.CLOSE; turn++) {
                readPart(prefab);
                lexer.take(Lexer.SEMICOLON);
            }
            lexer.take(Lexer.CLOSE);
        }

        private void readPart(int prefab) {
            int place = lexer.place;
            String name = lexer.takeName();
            int parts = program.prefabParts[prefab];
            if (Integer.bitCount(parts) >= 8) {
                lexer.refuse(2, place);
            }
            Named part = known(name, place);
            if (part.sort != Named.COMPONENT) {
                lexer.refuse(5, place);
            }
            if ((parts >> part.number & 1) == 1) {
                lexer.refuse(3, place);
            }
            program.prefabParts[prefab] = parts | 1 << part.number;
            if (lexer.token == Lexer.LEFT) {
                readValues(prefab, part.number);
            }
        }

        private void readValues(int prefab, int component) {
            int told = 0;
            for (int turn = 0; turn <= Program.MOST_MEMBERS; turn++) {
                lexer.advance();
                int place = lexer.place;
                int offset = program.components.memberNamed(component, lexer.takeName());
                if (offset < 0) {
                    lexer.refuse(4, place);
                }
                int bit = 1 << (offset - program.components.first[component]);
                if ((told & bit) != 0) {
                    lexer.refuse(3, place);
                }
                told |= bit;
                lexer.take(Lexer.GIVES);
                int value = readConst(program.components.members[offset].kind);
                program.prefabValues[prefab * Program.MOST_MEMBERS + offset] = value;
                if (lexer.token != Lexer.COMMA) {
                    break;
                }
            }
            lexer.take(Lexer.RIGHT);
        }

        private int readConst(int kind) {
            int place = lexer.place;
            boolean minus = lexer.token == Lexer.MINUS;
            if (minus) {
                lexer.advance();
            }
            int token = lexer.token;
            int value = 0;
            int got = Named.INT;
            if (token == Lexer.NUMBER || token == Lexer.FIXED) {
                value = lexer.takeValue();
                got = token == Lexer.NUMBER ? Named.INT : Named.FIX;
            } else if (!minus && (token == Lexer.TRUE || token == Lexer.FALSE)) {
                value = token == Lexer.TRUE ? 1 : 0;
                got = Named.BOOL;
                lexer.advance();
            } else if (!minus && token == Lexer.NONE) {
                value = -1;
                got = Named.REF;
                lexer.advance();
            } else {
                lexer.refuse(1, lexer.place);
            }
            if (got != (kind == Named.BYTE ? Named.INT : kind)) {
                lexer.refuse(5, place);
            }
            int signed = minus ? -value : value;
            return kind == Named.BYTE ? Math.max(-128, Math.min(127, signed)) : signed;
        }

        private void readHead() {
            beginOne(program.systemCount, Program.MOST);
            int system = program.systemCount;
            declare(Named.SYSTEM, system);
            program.systemCount = system + 1;
            int all = (1 << Program.MOST) - 1;
            program.after[system] = namesBehind(Lexer.AFTER, Named.SYSTEM, 0, all);
            if (lexer.token != Lexer.EACH) {
                lexer.refuse(1, lexer.place);
            }
            int each = namesBehind(Lexer.EACH, Named.COMPONENT, 0, all);
            program.each[system] = each;
            program.without[system] = namesBehind(Lexer.WITHOUT, Named.COMPONENT, each, all);
            int writes = namesBehind(Lexer.WRITES, Named.COMPONENT, 0, each);
            program.writes[system] = writes;
            program.reads[system] = namesBehind(Lexer.READS, Named.COMPONENT, 0, all & ~writes);
            program.start[system] = program.codeSize;
            program.settleGroup();
        }

        /** The NAMES behind a word as bits; none when the word does not stand here. */
        private int namesBehind(int word, int sort, int told, int allowed) {
            if (lexer.token != word) {
                return 0;
            }
            int mask = 0;
            for (int turn = 0; turn <= Program.MOST; turn++) {
                lexer.advance();
                int place = lexer.place;
                Named one = known(lexer.takeName(), place);
                int bit = 1 << one.number;
                if (one.sort == sort && ((told | mask) & bit) != 0) {
                    lexer.refuse(3, place);
                }
                if (one.sort != sort || (allowed & bit) == 0) {
                    lexer.refuse(5, place);
                }
                mask |= bit;
                if (lexer.token != Lexer.COMMA) {
                    break;
                }
            }
            return mask;
        }
    }

    /** Reads a system's statements and sums, and makes code for a stack machine of them. */
    private static final class Body {
        static final int MOST_LOCALS = 12;
        static final int DEEPEST = 20;
        private static final int ANY = -1;

        private final Lexer lexer;
        private Program program;
        private int system;
        private int localCount;
        // Of each loop that is open its event; -1 for a for.
        private final int[] heard;
        private int loopCount;
        private int depth;

        Body(Lexer lexer) {
            this.lexer = lexer;
            heard = new int[DEEPEST + 1];
        }

        /** Makes ready for the block of the program's latest system. */
        void open(Program target) {
            program = target;
            system = target.systemCount - 1;
            localCount = 0;
            loopCount = 0;
            depth = 0;
        }

        void block() {
            int outside = localCount;
            lexer.take(Lexer.OPEN);
            for (int turn = 0; turn <= Lexer.ROOM && lexer.token != Lexer.CLOSE; turn++) {
                program.add(Row.STEP);
                readStatement();
            }
            lexer.take(Lexer.CLOSE);
            program.forget(localCount - outside);
            localCount = outside;
        }

        private void readStatement() {
            switch (lexer.token) {
                case Lexer.LET:
                    readLet();
                    break;
                case Lexer.NAME:
                    readGiven();
                    break;
                case Lexer.IF:
                    readIf();
                    break;
                case Lexer.WHILE:
                    readWhile();
                    break;
                case Lexer.FOR:
                    readFor();
                    break;
                case Lexer.HEAR:
                    readHear();
                    break;
                case Lexer.SPAWN:
                    readSpawn();
                    break;
                case Lexer.DROP:
                case Lexer.GIVE:
                case Lexer.TAKE:
                    readTargeted(lexer.token);
                    break;
                case Lexer.PUT:
                    readPut();
                    break;
                case Lexer.EMIT:
                    readEmit();
                    break;
                case Lexer.SHOW:
                    readShow();
                    break;
                case Lexer.FAIL:
                    lexer.advance();
                    program.add(Row.FAIL);
                    lexer.take(Lexer.SEMICOLON);
                    break;
                default:
                    lexer.refuse(1, lexer.place);
            }
        }

        private void innerBlock() {
            if (lexer.token != Lexer.OPEN) {
                lexer.refuse(1, lexer.place);
            }
            deepen();
            block();
            depth--;
        }

        private void deepen() {
            if (depth >= DEEPEST) {
                lexer.refuse(2, lexer.place);
            }
            depth++;
        }

        private int jump(int op) {
            program.add(op);
            return program.add(0);
        }

        private void readIf() {
            lexer.advance();
            want(Named.BOOL);
            int past = jump(Row.JUMP_FALSE);
            innerBlock();
            if (lexer.token != Lexer.ELSE) {
                program.aim(past);
                return;
            }
            lexer.advance();
            int over = jump(Row.JUMP);
            program.aim(past);
            innerBlock();
            program.aim(over);
        }

        private void readWhile() {
            lexer.advance();
            int again = program.codeSize;
            want(Named.BOOL);
            int past = jump(Row.JUMP_FALSE);
            turns(again, past, ANY);
        }

        /** The block of a loop: each turn is a step and goes back to the test. */
        private void turns(int again, int past, int event) {
            program.add(Row.STEP);
            if (loopCount < heard.length) {
                heard[loopCount] = event;
            }
            loopCount++;
            innerBlock();
            loopCount--;
            program.add(Row.JUMP);
            program.add(again);
            program.aim(past);
        }

        private void readFor() {
            lexer.advance();
            String name = newLocal();
            lexer.take(Lexer.IN);
            int component = numberHere(Named.COMPONENT);
            int op = Row.NEXT;
            if (lexer.token == Lexer.NEAR) {
                if (!canBeNear(component)) {
                    lexer.refuse(5, lexer.place);
                }
                lexer.advance();
                inParens(Named.FIX);
                program.add(Row.RADIUS);
                program.add(loopCount);
                op = Row.NEXT_NEAR;
            }
            program.add(Row.BEGIN);
            program.add(loopCount);
            int again = program.codeSize;
            program.add(op);
            program.add(loopCount);
            program.add(component);
            program.add(localCount);
            int past = program.add(0);
            tellLocal(name, Named.LOOPED, Named.REF);
            turns(again, past, ANY);
            program.forget(1);
            localCount--;
        }

        private boolean canBeNear(int component) {
            int first = program.components.first[component];
            return ((program.each[system] & program.reads[system]) >> component & 1) == 1
                && program.components.sizeOf(component) >= 2
                && program.components.members[first].kind == Named.FIX
                && program.components.members[first + 1].kind == Named.FIX;
        }

        private void readHear() {
            lexer.advance();
            int event = numberHere(Named.EVENT);
            program.add(Row.BEGIN);
            program.add(loopCount);
            int again = program.codeSize;
            program.add(Row.NEXT_HEARD);
            program.add(loopCount);
            program.add(event);
            int past = program.add(0);
            turns(again, past, event);
        }

        /** A NAME for a LOCAL: it may stand there, and none has it. */
        private String newLocal() {
            int place = lexer.place;
            String name = lexer.takeName();
            if (localCount >= MOST_LOCALS) {
                lexer.refuse(2, place);
            }
            if (program.find(name) != null) {
                lexer.refuse(3, place);
            }
            return name;
        }

        private void tellLocal(String name, int sort, int kind) {
            program.tell(name, sort, localCount, kind);
            localCount++;
        }

        private Named knownHere() {
            int place = lexer.place;
            Named found = program.find(lexer.takeName());
            if (found == null) {
                lexer.refuse(4, place);
            }
            return found;
        }

        private int numberHere(int sort) {
            int place = lexer.place;
            Named found = knownHere();
            if (found.sort != sort) {
                lexer.refuse(5, place);
            }
            return found.number;
        }

        private int memberHere(Shapes shapes, int head) {
            int place = lexer.place;
            int offset = shapes.memberNamed(head, lexer.takeName());
            if (offset < 0) {
                lexer.refuse(4, place);
            }
            return offset;
        }

        /** Behind a component's NAME: . NAME = */
        private int givenMember(int component) {
            lexer.take(Lexer.POINT);
            int offset = memberHere(program.components, component);
            lexer.take(Lexer.GIVES);
            return offset;
        }

        private int kindAt(int offset) {
            return program.components.members[offset].kind;
        }

        private void readLet() {
            lexer.advance();
            String name = newLocal();
            lexer.take(Lexer.GIVES);
            int kind = want(ANY);
            program.add(Row.SET_LOCAL);
            program.add(localCount);
            tellLocal(name, Named.LOCAL, kind);
            lexer.take(Lexer.SEMICOLON);
        }

        private void readGiven() {
            int place = lexer.place;
            Named first = knownHere();
            if (lexer.token == Lexer.GIVES) {
                if (first.sort != Named.LOCAL) {
                    lexer.refuse(5, place);
                }
                lexer.advance();
                want(first.kind);
                program.add(Row.SET_LOCAL);
                program.add(first.number);
            } else if (lexer.token == Lexer.POINT) {
                if (first.sort != Named.COMPONENT || (program.writes[system] >> first.number & 1) == 0) {
                    lexer.refuse(5, place);
                }
                int offset = givenMember(first.number);
                want(kindAt(offset));
                program.add(Row.SET_OWN);
                program.add(offset);
            } else {
                lexer.refuse(1, lexer.place);
            }
            lexer.take(Lexer.SEMICOLON);
        }

        private void readSpawn() {
            lexer.advance();
            int prefab = numberHere(Named.PREFAB);
            int[] offsets = new int[4];
            int told = 0;
            if (lexer.token == Lexer.LEFT) {
                openParens();
                boolean more = true;
                for (int turn = 0; turn <= 4 && more; turn++) {
                    int offset = givenMember(spawnedPart(prefab, told));
                    want(kindAt(offset));
                    if (told < 4) {
                        offsets[told] = offset;
                        told++;
                    }
                    more = lexer.token == Lexer.COMMA;
                    if (more) {
                        lexer.advance();
                    }
                }
                closeParens();
            }
            lexer.take(Lexer.SEMICOLON);
            program.add(Row.SPAWN);
            program.add(prefab);
            program.add(told);
            for (int i = 0; i < told; i++) {
                program.add(offsets[i]);
            }
        }

        private int spawnedPart(int prefab, int told) {
            int place = lexer.place;
            String name = lexer.takeName();
            if (told >= 4) {
                lexer.refuse(2, place);
            }
            Named found = program.find(name);
            if (found == null) {
                lexer.refuse(4, place);
                return 0;
            }
            if (found.sort != Named.COMPONENT || (program.prefabParts[prefab] >> found.number & 1) == 0) {
                lexer.refuse(5, place);
            }
            return found.number;
        }

        private void readTargeted(int word) {
            lexer.advance();
            inParens(Named.REF);
            if (word == Lexer.DROP) {
                program.add(Row.DROP);
            } else {
                int component = numberHere(Named.COMPONENT);
                program.add(word == Lexer.GIVE ? Row.GIVE : Row.TAKE);
                program.add(component);
            }
            lexer.take(Lexer.SEMICOLON);
        }

        private void readPut() {
            lexer.advance();
            inParens(Named.REF);
            int component = numberHere(Named.COMPONENT);
            int offset = givenMember(component);
            want(kindAt(offset));
            lexer.take(Lexer.SEMICOLON);
            program.add(Row.PUT);
            program.add(component);
            program.add(offset);
        }

        private void readShow() {
            lexer.advance();
            inParens(ANY);
            lexer.take(Lexer.SEMICOLON);
            program.add(Row.SHOW);
        }

        private void readEmit() {
            lexer.advance();
            int event = numberHere(Named.EVENT);
            openParens();
            int size = program.events.sizeOf(event);
            int count = 0;
            boolean more = lexer.token != Lexer.RIGHT;
            for (int turn = 0; turn <= Lexer.ROOM && more; turn++) {
                want(count < size ? program.events.members[program.events.first[event] + count].kind : ANY);
                count++;
                more = lexer.token == Lexer.COMMA;
                if (more) {
                    lexer.advance();
                }
            }
            if (lexer.token == Lexer.RIGHT && count != size) {
                lexer.refuse(5, lexer.place);
            }
            closeParens();
            lexer.take(Lexer.TO);
            inParens(Named.REF);
            lexer.take(Lexer.IN);
            inParens(Named.INT);
            lexer.take(Lexer.SEMICOLON);
            program.add(Row.EMIT);
            program.add(event);
        }

        /** An E; the kind is looked at ahead of the token behind it. What a BYTE is given is held. */
        private int want(int kind) {
            int place = lexer.place;
            int got = signsFrom(0);
            if (kind != ANY && got != asValue(kind)) {
                lexer.refuse(5, place);
            }
            if (kind == Named.BYTE) {
                program.add(Row.HOLD);
            }
            return got;
        }

        private static int asValue(int kind) {
            return kind == Named.BYTE ? Named.INT : kind;
        }

        private void openParens() {
            if (lexer.token != Lexer.LEFT) {
                lexer.refuse(1, lexer.place);
            }
            deepen();
            lexer.advance();
        }

        private void closeParens() {
            lexer.take(Lexer.RIGHT);
            depth--;
        }

        private int inParens(int kind) {
            openParens();
            int got = want(kind);
            closeParens();
            return got;
        }

        private static int levelOf(int sign) {
            switch (sign) {
                case Lexer.EITHER:
                    return 0;
                case Lexer.BOTH:
                    return 1;
                case Lexer.LESS:
                case Lexer.AT_MOST:
                case Lexer.MORE:
                case Lexer.AT_LEAST:
                case Lexer.SAME:
                case Lexer.OTHER:
                    return 2;
                case Lexer.PLUS:
                case Lexer.MINUS:
                    return 3;
                case Lexer.TIMES:
                case Lexer.OVER:
                case Lexer.REST:
                    return 4;
                default:
                    return -1;
            }
        }

        /** Signs of one level and what binds tighter: 0 for ||, up to 4 for * / %. */
        private int signsFrom(int level) {
            int kind = level < 4 ? signsFrom(level + 1) : unary();
            for (int turn = 0; turn <= Lexer.ROOM && levelOf(lexer.token) == level; turn++) {
                int sign = lexer.token;
                int place = lexer.place;
                lexer.advance();
                int past = level > 1 ? -1 : jump(level == 0 ? Row.OR_ELSE : Row.AND_ALSO);
                int right = level < 4 ? signsFrom(level + 1) : unary();
                kind = joined(sign, place, kind, right);
                program.aim(past);
                if (level == 2) {
                    break;
                }
            }
            return kind;
        }

        private int joined(int sign, int place, int left, int right) {
            boolean counts = left == Named.INT || left == Named.FIX && sign != Lexer.REST;
            boolean fits = left == right;
            int kind = left;
            if (sign == Lexer.EITHER || sign == Lexer.BOTH) {
                fits = fits && left == Named.BOOL;
            } else if (levelOf(sign) == 2) {
                fits = fits && (counts || sign == Lexer.SAME || sign == Lexer.OTHER);
                kind = Named.BOOL;
            } else {
                fits = fits && counts;
            }
            if (!fits) {
                lexer.refuse(5, place);
            }
            if (levelOf(sign) > 1) {
                program.add(opOf(sign, left == Named.FIX));
            }
            return kind;
        }

        private static int opOf(int sign, boolean fixes) {
            switch (sign) {
                case Lexer.PLUS:
                    return fixes ? Row.FIX_ADD : Row.ADD;
                case Lexer.MINUS:
                    return fixes ? Row.FIX_LESS : Row.SUBTRACT;
                case Lexer.TIMES:
                    return fixes ? Row.FIX_TIMES : Row.MULTIPLY;
                case Lexer.OVER:
                    return fixes ? Row.FIX_OVER : Row.DIVIDE;
                case Lexer.REST:
                    return Row.REST;
                case Lexer.LESS:
                    return Row.BELOW;
                case Lexer.AT_MOST:
                    return Row.AT_MOST;
                case Lexer.MORE:
                    return Row.ABOVE;
                case Lexer.AT_LEAST:
                    return Row.AT_LEAST;
                case Lexer.SAME:
                    return Row.SAME;
                default:
                    return Row.OTHER;
            }
        }

        private int unary() {
            switch (lexer.token) {
                case Lexer.MINUS:
                case Lexer.NOT:
                    return signed(lexer.token);
                case Lexer.LEFT:
                    return inParens(ANY);
                case Lexer.INPUT:
                    return called(Named.INT, Row.INPUT, Named.INT);
                case Lexer.DRAW:
                    return called(Named.INT, Row.DRAW, Named.INT);
                case Lexer.ALIVE:
                    return called(Named.REF, Row.ALIVE, Named.BOOL);
                case Lexer.ROOT:
                    return called(Named.FIX, Row.ROOT, Named.FIX);
                case Lexer.INT:
                    return called(Named.FIX, Row.TO_INT, Named.INT);
                case Lexer.FIX:
                    return called(Named.INT, Row.TO_FIX, Named.FIX);
                case Lexer.HAS:
                    return readHas();
                case Lexer.NAME:
                    return nameValue();
                default:
                    return plainValue(lexer.token);
            }
        }

        private int signed(int sign) {
            int place = lexer.place;
            deepen();
            lexer.advance();
            int kind = unary();
            depth--;
            boolean fits = sign == Lexer.NOT ? kind == Named.BOOL : kind == Named.INT || kind == Named.FIX;
            if (!fits) {
                lexer.refuse(5, place);
            }
            int minus = kind == Named.FIX ? Row.FIX_MINUS : Row.MINUS;
            program.add(sign == Lexer.NOT ? Row.NOT : minus);
            return kind;
        }

        private int called(int wanted, int op, int answer) {
            lexer.advance();
            inParens(wanted);
            program.add(op);
            return answer;
        }

        private int readHas() {
            lexer.advance();
            openParens();
            want(Named.REF);
            lexer.take(Lexer.COMMA);
            int component = numberHere(Named.COMPONENT);
            closeParens();
            program.add(Row.HAS);
            program.add(component);
            return Named.BOOL;
        }

        private int plainValue(int token) {
            switch (token) {
                case Lexer.NUMBER:
                    push(lexer.takeValue());
                    return Named.INT;
                case Lexer.FIXED:
                    push(lexer.takeValue());
                    return Named.FIX;
                case Lexer.TRUE:
                case Lexer.FALSE:
                    push(token == Lexer.TRUE ? 1 : 0);
                    lexer.advance();
                    return Named.BOOL;
                case Lexer.NONE:
                    push(-1);
                    lexer.advance();
                    return Named.REF;
                case Lexer.SELF:
                    program.add(Row.SELF);
                    lexer.advance();
                    return Named.REF;
                case Lexer.TICK:
                    program.add(Row.TICK);
                    lexer.advance();
                    return Named.INT;
                default:
                    lexer.refuse(1, lexer.place);
                    return Named.INT;
            }
        }

        private void push(int value) {
            program.add(Row.PUSH);
            program.add(value);
        }

        private int nameValue() {
            int place = lexer.place;
            Named first = knownHere();
            if (lexer.token != Lexer.POINT) {
                if (!first.isLocal()) {
                    lexer.refuse(5, place);
                }
                program.add(Row.LOCAL);
                program.add(first.number);
                return first.kind;
            }
            int loop = first.sort == Named.EVENT ? loopOf(first.number) : -1;
            boolean own = first.sort == Named.COMPONENT && (program.each[system] >> first.number & 1) == 1;
            boolean far = first.isLocal() && first.kind == Named.REF;
            if (!own && !far && loop < 0) {
                lexer.refuse(5, place);
            }
            lexer.advance();
            if (loop >= 0) {
                int heardAt = memberHere(program.events, first.number);
                program.add(Row.HEARD);
                program.add(loop);
                program.add(heardAt - program.events.first[first.number]);
                return asValue(program.events.members[heardAt].kind);
            }
            int component = first.number;
            if (far) {
                int secondPlace = lexer.place;
                Named second = knownHere();
                if (second.sort != Named.COMPONENT || (program.reads[system] >> second.number & 1) == 0) {
                    lexer.refuse(5, secondPlace);
                }
                component = second.number;
                lexer.take(Lexer.POINT);
                program.add(Row.LOCAL);
                program.add(first.number);
                program.add(Row.FAR);
                program.add(component);
            } else {
                program.add(Row.OWN);
            }
            int offset = memberHere(program.components, component);
            program.add(offset);
            return asValue(kindAt(offset));
        }

        private int loopOf(int event) {
            for (int loop = loopCount - 1; loop >= 0; loop--) {
                if (loop < heard.length && heard[loop] == event) {
                    return loop;
                }
            }
            return -1;
        }
    }

    /** The state of a world at one tick. */
    private static final class World {
        static final int PLACES = 256;
        static final int MOST_PENDING = 256;
        static final int MOST_SHOWN = 32;
        // An event's row: event, due, target, and up to four members.
        static final int EVENT_WIDTH = 7;

        int tick;
        int seed;
        int fails;
        int passed;
        int failSystem;
        int failEntity;
        int failWhy;
        final int[] generation;
        // Its components as bits; -1 where no entity is.
        final int[] parts;
        // No entity is at this place or above it.
        int top;
        // How many members the text's components have in all.
        int width;
        final int[] values;
        final int[] pending;
        int pendingCount;
        final int[] shown;
        int shownCount;

        World() {
            generation = new int[PLACES];
            parts = new int[PLACES];
            Arrays.fill(parts, -1);
            values = new int[PLACES * Program.MOST_MEMBERS];
            pending = new int[MOST_PENDING * EVENT_WIDTH];
            shown = new int[MOST_SHOWN];
        }

        void clear(int newSeed, int newWidth) {
            tick = 0;
            seed = newSeed;
            fails = 0;
            passed = 0;
            failWhy = 0;
            Arrays.fill(generation, 0);
            Arrays.fill(parts, -1);
            top = 0;
            width = newWidth;
            pendingCount = 0;
            shownCount = 0;
        }

        void copyFrom(World other) {
            tick = other.tick;
            seed = other.seed;
            fails = other.fails;
            passed = other.passed;
            failSystem = other.failSystem;
            failEntity = other.failEntity;
            failWhy = other.failWhy;
            System.arraycopy(other.generation, 0, generation, 0, PLACES);
            System.arraycopy(other.parts, 0, parts, 0, PLACES);
            top = other.top;
            width = other.width;
            System.arraycopy(other.values, 0, values, 0, top * width);
            System.arraycopy(other.pending, 0, pending, 0, other.pendingCount * EVENT_WIDTH);
            pendingCount = other.pendingCount;
            System.arraycopy(other.shown, 0, shown, 0, other.shownCount);
            shownCount = other.shownCount;
        }

        int numberAt(int place) {
            return 256 * generation[place] + place;
        }

        /** The place of the entity with this number; -1 if none such is alive. */
        int placeOf(int number) {
            int place = number & 255;
            return parts[place] >= 0 && number >= 0 && number >>> 8 == generation[place] ? place : -1;
        }

        boolean owns(int place, int component) {
            return place >= 0 && place < PLACES && parts[place] >= 0 && (parts[place] >> component & 1) == 1;
        }

        boolean matches(int place, int each, int without) {
            return parts[place] >= 0 && (parts[place] & each) == each && (parts[place] & without) == 0;
        }

        int matchAt(int each, int without, int k) {
            int left = k;
            for (int place = 0; place < top; place++) {
                if (matches(place, each, without)) {
                    if (left == 0) {
                        return numberAt(place);
                    }
                    left--;
                }
            }
            return WorldEngine.NONE;
        }

        int entityCount() {
            int count = 0;
            for (int place = 0; place < top; place++) {
                if (parts[place] >= 0) {
                    count++;
                }
            }
            return count;
        }

        int read(int place, int offset) {
            int at = place * width + offset;
            return place >= 0 && at >= 0 && at < values.length ? values[at] : 0;
        }

        void write(int place, int offset, int value) {
            int at = place * width + offset;
            if (place >= 0 && at >= 0 && at < values.length) {
                values[at] = value;
            }
        }

        void occupy(int place, int newParts) {
            parts[place] = newParts;
            top = Math.max(top, place + 1);
        }

        /** A new entity of a prefab: its place; -1 without a free one. */
        int bear(Program program, int prefab) {
            int place = 0;
            while (place < PLACES && parts[place] >= 0) {
                place++;
            }
            if (place >= PLACES) {
                return -1;
            }
            occupy(place, program.prefabParts[prefab]);
            System.arraycopy(program.prefabValues, prefab * Program.MOST_MEMBERS, values, place * width, width);
            return place;
        }

        void remove(int place) {
            parts[place] = -1;
            generation[place]++;
        }

        void giveAt(Program program, int place, int component) {
            parts[place] |= 1 << component;
            Shapes shapes = program.components;
            for (int offset = shapes.first[component]; offset < shapes.first[component + 1]; offset++) {
                write(place, offset, program.firstValue(offset));
            }
        }

        void takeAt(int place, int component) {
            parts[place] &= ~(1 << component);
        }

        void noteFailure(int system, int number, int why) {
            fails++;
            if (failWhy == 0) {
                failSystem = system;
                failEntity = number;
                failWhy = why;
            }
        }

        void dropDue() {
            int kept = 0;
            for (int k = 0; k < pendingCount; k++) {
                if (pending[k * EVENT_WIDTH + 1] != tick) {
                    System.arraycopy(pending, k * EVENT_WIDTH, pending, kept * EVENT_WIDTH, EVENT_WIDTH);
                    kept++;
                }
            }
            pendingCount = kept;
        }

        /** Carries another text's world, which this one was, into a new text. */
        void carryFrom(World old, Program before, Program after) {
            Shapes now = after.components;
            width = now.total();
            failWhy = 0;
            for (int place = 0; place < top; place++) {
                if (old.parts[place] >= 0) {
                    parts[place] = 0;
                }
            }
            for (int c = 0; c < now.count; c++) {
                int was = before.components.headNamed(now.heads[c].name);
                for (int place = 0; place < top && was >= 0; place++) {
                    if (old.owns(place, was)) {
                        parts[place] |= 1 << c;
                    }
                }
                for (int offset = now.first[c]; offset < now.first[c + 1]; offset++) {
                    int from = before.components.memberNamed(was, now.members[offset].name);
                    carryMember(old, before, from, after, offset);
                }
            }
            carryEvents(before, after);
        }

        private void carryMember(World old, Program before, int from, Program after, int to) {
            int kind = after.components.members[to].kind;
            for (int place = 0; place < top; place++) {
                int value = after.firstValue(to);
                if (from >= 0) {
                    value = turned(old.read(place, from), before.components.members[from].kind, kind);
                }
                write(place, to, value);
            }
        }

        private static int turned(int value, int from, int to) {
            if (from == to) {
                return value;
            }
            if (from == Named.REF || to == Named.REF) {
                return to == Named.REF ? -1 : 0;
            }
            int whole = from == Named.FIX ? value >> 16 : value;
            switch (to) {
                case Named.BYTE:
                    return Math.max(-128, Math.min(127, whole));
                case Named.FIX:
                    long exact = 65536L * value;
                    return (int) Math.max(Integer.MIN_VALUE, Math.min(Integer.MAX_VALUE, exact));
                case Named.BOOL:
                    return value != 0 ? 1 : 0;
                default:
                    return whole;
            }
        }

        private void carryEvents(Program before, Program after) {
            int kept = 0;
            for (int k = 0; k < pendingCount; k++) {
                int was = pending[k * EVENT_WIDTH];
                int is = after.events.headNamed(before.events.heads[was].name);
                if (is >= 0 && before.events.sameKinds(was, after.events, is)) {
                    System.arraycopy(pending, k * EVENT_WIDTH, pending, kept * EVENT_WIDTH, EVENT_WIDTH);
                    pending[kept * EVENT_WIDTH] = is;
                    kept++;
                }
            }
            pendingCount = kept;
        }
    }

    /** Runs the code of one row, and lists the commands of all rows of a group. */
    private static final class Row {
        static final int HALT = 0;
        static final int STEP = 1;
        static final int JUMP = 2;
        static final int JUMP_FALSE = 3;
        static final int AND_ALSO = 4;
        static final int OR_ELSE = 5;
        static final int BEGIN = 6;
        static final int RADIUS = 7;
        static final int NEXT = 8;
        static final int NEXT_NEAR = 9;
        static final int NEXT_HEARD = 10;
        static final int FAIL = 11;

        static final int SPAWN = 20;
        static final int DROP = 21;
        static final int GIVE = 22;
        static final int TAKE = 23;
        static final int PUT = 24;
        static final int EMIT = 25;
        static final int SHOW = 26;

        static final int PUSH = 30;
        static final int SELF = 31;
        static final int TICK = 32;
        static final int LOCAL = 33;
        static final int SET_LOCAL = 34;
        static final int OWN = 35;
        static final int SET_OWN = 36;
        static final int HEARD = 37;
        static final int FAR = 38;
        static final int INPUT = 39;
        static final int DRAW = 40;
        static final int ALIVE = 41;
        static final int HAS = 42;
        static final int HOLD = 43;

        static final int MINUS = 50;
        static final int NOT = 51;
        static final int ADD = 52;
        static final int SUBTRACT = 53;
        static final int MULTIPLY = 54;
        static final int DIVIDE = 55;
        static final int REST = 56;
        static final int BELOW = 57;
        static final int AT_MOST = 58;
        static final int ABOVE = 59;
        static final int AT_LEAST = 60;
        static final int SAME = 61;
        static final int OTHER = 62;

        static final int FIX_MINUS = 70;
        static final int FIX_ADD = 71;
        static final int FIX_LESS = 72;
        static final int FIX_TIMES = 73;
        static final int FIX_OVER = 74;
        static final int ROOT = 75;
        static final int TO_INT = 76;
        static final int TO_FIX = 77;

        // A command: what, then up to three numbers, then up to seven more.
        static final int COMMAND_WIDTH = 11;
        private static final int MOST_STEPS = 120;
        private static final int MOST_COMMANDS = 8;
        // 120 steps through a text of 6000 bytes can't need as many.
        private static final int MOST_TURNS = 4000000;
        private static final int MOST_LOOPS = Body.DEEPEST + 1;

        int[] list;
        int listed;
        private Program program;
        private World world;
        private int[] inputs;
        private final int[] stack;
        private int height;
        private final int[] locals;
        private final int[] cursor;
        private final int[] radius;
        private final int[] order;
        private final int[] before;
        private int at;
        private int steps;
        private int draws;
        private int made;
        private int why;
        private int system;
        private int place;

        Row() {
            list = new int[64 * COMMAND_WIDTH];
            stack = new int[160];
            locals = new int[Body.MOST_LOCALS];
            cursor = new int[MOST_LOOPS];
            radius = new int[MOST_LOOPS];
            order = new int[COMMAND_WIDTH];
            before = new int[Program.MOST_MEMBERS];
        }

        void open(Program ofText, World ofTick, int[] ofPlayers) {
            program = ofText;
            world = ofTick;
            inputs = ofPlayers;
        }

        /** Runs a row: its commands are listed, or nothing is as if it had not run but the failure. */
        void runRow(int ofSystem, int ofPlace) {
            system = ofSystem;
            place = ofPlace;
            at = program.start[system];
            height = 0;
            steps = 0;
            draws = 0;
            made = 0;
            why = 0;
            System.arraycopy(world.values, place * world.width, before, 0, world.width);
            int op = nextCode();
            for (int turn = 0; turn < MOST_TURNS && op != HALT && why == 0; turn++) {
                if (op < SPAWN) {
                    control(op);
                } else if (op < PUSH) {
                    command(op);
                } else if (op < MINUS) {
                    value(op);
                } else if (op < FIX_MINUS) {
                    ints(op);
                } else {
                    fixes(op);
                }
                op = nextCode();
            }
            if (why != 0) {
                System.arraycopy(before, 0, world.values, place * world.width, world.width);
                listed -= made;
                world.noteFailure(system, world.numberAt(place), why);
            }
        }

        private int nextCode() {
            int here = at;
            at++;
            return here >= 0 && here < program.codeSize ? program.code[here] : HALT;
        }

        private void push(int v) {
            if (height < stack.length) {
                stack[height] = v;
                height++;
            }
        }

        private int pop() {
            if (height > 0) {
                height--;
            }
            return stack[height];
        }

        private void control(int op) {
            int operand = op == STEP || op == FAIL ? 0 : nextCode();
            switch (op) {
                case STEP:
                    steps++;
                    if (steps > MOST_STEPS) {
                        why = 5;
                    }
                    break;
                case JUMP:
                    at = operand;
                    break;
                case JUMP_FALSE:
                    if (pop() == 0) {
                        at = operand;
                    }
                    break;
                case AND_ALSO:
                case OR_ELSE:
                    int left = pop();
                    if ((left != 0) == (op == OR_ELSE)) {
                        push(left);
                        at = operand;
                    }
                    break;
                case BEGIN:
                    cursor[operand] = -1;
                    break;
                case RADIUS:
                    radius[operand] = pop();
                    break;
                case NEXT:
                case NEXT_NEAR:
                    nextEntity(operand, op == NEXT_NEAR);
                    break;
                case NEXT_HEARD:
                    nextHeard(operand);
                    break;
                default:
                    why = 4;
            }
        }

        private void nextEntity(int loop, boolean near) {
            int component = nextCode();
            int local = nextCode();
            int past = nextCode();
            int own = place * world.width + program.components.first[component];
            for (int other = cursor[loop] + 1; other < world.top; other++) {
                boolean met = other != place && world.owns(other, component);
                if (met && near) {
                    int its = own + (other - place) * world.width;
                    long x = (long) world.values[own] - world.values[its];
                    long y = (long) world.values[own + 1] - world.values[its + 1];
                    met = Math.max(Math.abs(x), Math.abs(y)) <= radius[loop];
                }
                if (met) {
                    cursor[loop] = other;
                    locals[local] = world.numberAt(other);
                    return;
                }
            }
            at = past;
        }

        private void nextHeard(int loop) {
            int event = nextCode();
            int past = nextCode();
            int self = world.numberAt(place);
            for (int k = cursor[loop] + 1; k < world.pendingCount; k++) {
                int row = k * World.EVENT_WIDTH;
                if (world.pending[row] == event && world.pending[row + 1] == world.tick
                        && world.pending[row + 2] == self) {
                    cursor[loop] = k;
                    return;
                }
            }
            at = past;
        }

        private void command(int op) {
            order[0] = op;
            switch (op) {
                case SPAWN:
                    commandSpawn();
                    break;
                case EMIT:
                    commandEmit();
                    break;
                case PUT:
                    order[2] = nextCode();
                    order[3] = nextCode();
                    order[4] = pop();
                    order[1] = pop();
                    break;
                case GIVE:
                case TAKE:
                    order[2] = nextCode();
                    order[1] = pop();
                    break;
                default:
                    order[1] = pop();
            }
            if (why == 0) {
                listCommand();
            }
        }

        private void commandSpawn() {
            order[1] = nextCode();
            int told = Math.min(4, nextCode());
            order[2] = told;
            for (int i = 0; i < told; i++) {
                order[3 + i] = nextCode();
            }
            for (int i = told - 1; i >= 0; i--) {
                order[7 + i] = pop();
            }
        }

        private void commandEmit() {
            order[1] = nextCode();
            order[2] = pop();
            order[3] = pop();
            for (int i = program.events.sizeOf(order[1]) - 1; i >= 0; i--) {
                order[4 + i] = pop();
            }
            if (order[2] < 1 || order[2] > 16) {
                why = 8;
            }
        }

        private void listCommand() {
            if (made >= MOST_COMMANDS) {
                why = 6;
                return;
            }
            int from = listed * COMMAND_WIDTH;
            if (from + COMMAND_WIDTH > list.length) {
                list = Arrays.copyOf(list, 2 * list.length);
            }
            System.arraycopy(order, 0, list, from, COMMAND_WIDTH);
            listed++;
            made++;
        }

        private void value(int op) {
            switch (op) {
                case PUSH:
                    push(nextCode());
                    break;
                case SELF:
                    push(world.numberAt(place));
                    break;
                case TICK:
                    push(world.tick);
                    break;
                case LOCAL:
                    push(locals[nextCode()]);
                    break;
                case SET_LOCAL:
                    locals[nextCode()] = pop();
                    break;
                case OWN:
                    push(world.read(place, nextCode()));
                    break;
                case SET_OWN:
                    world.write(place, nextCode(), pop());
                    break;
                case HEARD:
                    int row = cursor[nextCode()] * World.EVENT_WIDTH;
                    push(world.pending[row + 3 + nextCode()]);
                    break;
                case FAR:
                    far(world.placeOf(pop()));
                    break;
                case INPUT:
                    int player = pop();
                    push(player >= 0 && player < inputs.length ? inputs[player] : 0);
                    break;
                case DRAW:
                    draw(pop());
                    break;
                case ALIVE:
                    push(world.placeOf(pop()) >= 0 ? 1 : 0);
                    break;
                case HAS:
                    push(world.owns(world.placeOf(pop()), nextCode()) ? 1 : 0);
                    break;
                default:
                    push(Math.max(-128, Math.min(127, pop())));
            }
        }

        private void far(int other) {
            int component = nextCode();
            int offset = nextCode();
            if (!world.owns(other, component)) {
                why = 3;
                return;
            }
            push(world.read(other, offset));
        }

        private void draw(int n) {
            if (n < 1) {
                why = 7;
                return;
            }
            int x = stirred(world.seed, world.tick);
            x = stirred(x, world.numberAt(place));
            x = stirred(x, system);
            x = stirred(x, draws);
            draws++;
            push((x & Integer.MAX_VALUE) % n);
        }

        private static int stirred(int x, int with) {
            int mixed = (x ^ with) * -1640531535;
            return mixed ^ mixed >>> 15;
        }

        private void ints(int op) {
            int b = pop();
            if (op == MINUS || op == NOT) {
                push(op == MINUS ? -b : 1 - b);
                return;
            }
            int a = pop();
            if (op >= BELOW) {
                push(compared(op, a, b) ? 1 : 0);
                return;
            }
            if (b == 0 && (op == DIVIDE || op == REST)) {
                why = 1;
                return;
            }
            switch (op) {
                case ADD:
                    push(a + b);
                    break;
                case SUBTRACT:
                    push(a - b);
                    break;
                case MULTIPLY:
                    push(a * b);
                    break;
                case DIVIDE:
                    push(a / b);
                    break;
                default:
                    push(a % b);
            }
        }

        private static boolean compared(int op, int a, int b) {
            switch (op) {
                case BELOW:
                    return a < b;
                case AT_MOST:
                    return a <= b;
                case ABOVE:
                    return a > b;
                case AT_LEAST:
                    return a >= b;
                case SAME:
                    return a == b;
                default:
                    return a != b;
            }
        }

        private void fixes(int op) {
            long b = pop();
            long exact = 0;
            switch (op) {
                case FIX_MINUS:
                    exact = -b;
                    break;
                case FIX_ADD:
                    exact = pop() + b;
                    break;
                case FIX_LESS:
                    exact = pop() - b;
                    break;
                case FIX_TIMES:
                    exact = rounded(pop() * b, 65536);
                    break;
                case FIX_OVER:
                    exact = pop() * 65536L;
                    why = b == 0 ? 1 : 0;
                    exact = rounded(exact, b);
                    break;
                case ROOT:
                    why = b < 0 ? 2 : 0;
                    exact = rootOf(b * 65536);
                    break;
                case TO_INT:
                    exact = b >> 16;
                    break;
                default:
                    exact = b * 65536;
            }
            push((int) Math.max(Integer.MIN_VALUE, Math.min(Integer.MAX_VALUE, exact)));
        }

        /** The exact quotient, to the nearest, of two the even one; 0 for a divisor of 0. */
        private static long rounded(long over, long under) {
            if (under == 0) {
                return 0;
            }
            long top = under < 0 ? -over : over;
            long bottom = Math.abs(under);
            long below = Math.floorDiv(top, bottom);
            long twice = 2 * (top - below * bottom);
            boolean up = twice > bottom || twice == bottom && (below & 1) == 1;
            return up ? below + 1 : below;
        }

        private static long rootOf(long n) {
            long root = 0;
            for (int bit = 23; bit >= 0; bit--) {
                long tried = root + (1L << bit);
                if (tried * tried <= n) {
                    root = tried;
                }
            }
            return root;
        }
    }

    /** Runs ticks: rows of each group first, then what they command. */
    private static final class Ticker {
        private final Row row;
        private Program program;
        private World world;

        Ticker() {
            row = new Row();
        }

        void runTick(Program ofText, World ofTick, int[] inputs) {
            program = ofText;
            world = ofTick;
            world.tick++;
            world.failWhy = 0;
            world.shownCount = 0;
            row.open(program, world, inputs);
            for (int group = 0; group < program.groupCount; group++) {
                runGroup(group);
            }
            world.dropDue();
        }

        private void runGroup(int group) {
            row.listed = 0;
            for (int s = 0; s < program.systemCount; s++) {
                for (int place = 0; place < world.top && program.group[s] == group; place++) {
                    if (world.matches(place, program.each[s], program.without[s])) {
                        row.runRow(s, place);
                    }
                }
            }
            for (int i = 0; i < row.listed; i++) {
                if (!acts(row.list, i * Row.COMMAND_WIDTH)) {
                    world.passed++;
                }
            }
        }

        /** Whether a command could act. */
        private boolean acts(int[] list, int from) {
            switch (list[from]) {
                case Row.SPAWN:
                    return actSpawn(list, from);
                case Row.EMIT:
                    return actEmit(list, from);
                case Row.SHOW:
                    return actShow(list[from + 1]);
                default:
                    return actOn(list, from, world.placeOf(list[from + 1]));
            }
        }

        private boolean actSpawn(int[] list, int from) {
            int place = world.bear(program, list[from + 1]);
            if (place < 0) {
                return false;
            }
            for (int i = 0; i < list[from + 2]; i++) {
                world.write(place, list[from + 3 + i], list[from + 7 + i]);
            }
            return true;
        }

        private boolean actEmit(int[] list, int from) {
            if (world.pendingCount >= World.MOST_PENDING) {
                return false;
            }
            int to = world.pendingCount * World.EVENT_WIDTH;
            System.arraycopy(list, from + 1, world.pending, to, World.EVENT_WIDTH);
            world.pending[to + 1] = world.tick + list[from + 2];
            world.pendingCount++;
            return true;
        }

        private boolean actShow(int value) {
            if (world.shownCount >= World.MOST_SHOWN) {
                return false;
            }
            world.shown[world.shownCount] = value;
            world.shownCount++;
            return true;
        }

        private boolean actOn(int[] list, int from, int place) {
            if (place < 0) {
                return false;
            }
            int what = list[from];
            if (what == Row.DROP) {
                world.remove(place);
                return true;
            }
            int component = list[from + 2];
            if (world.owns(place, component) == (what == Row.GIVE)) {
                return false;
            }
            if (what == Row.GIVE) {
                world.giveAt(program, place, component);
            } else if (what == Row.TAKE) {
                world.takeAt(place, component);
            } else {
                world.write(place, list[from + 3], list[from + 4]);
            }
            return true;
        }
    }

    /** The worlds from the confirmed tick up to now, and the inputs that lead there. */
    private static final class Play {
        static final int PLAYERS = 4;
        static final int AHEAD = 16;
        static final int TOLD = 256;
        // Inputs may come for ticks from one above CONFIRMED up to 32 above it.
        private static final int KEPT = 64;

        final World now;
        int confirmed;
        int on;
        int again;
        final int[] told;
        int toldCount;
        // The world behind tick T, with T's low bits, from CONFIRMED up to the tick before NOW.
        private final World[] behind;
        private final Ticker ticker;
        private final boolean[] came;
        private final int[] bits;
        // Of each player what came for the latest confirmed tick.
        private final int[] last;
        private final int[] players;
        private final int[] ranWith;
        private final int[] inputs;

        Play() {
            now = new World();
            behind = new World[AHEAD];
            for (int i = 0; i < AHEAD; i++) {
                behind[i] = new World();
            }
            on = 1;
            told = new int[TOLD];
            ticker = new Ticker();
            came = new boolean[PLAYERS * KEPT];
            bits = new int[PLAYERS * KEPT];
            last = new int[PLAYERS];
            players = new int[AHEAD];
            ranWith = new int[PLAYERS * AHEAD];
            inputs = new int[PLAYERS];
        }

        boolean isQuiet() {
            return now.tick == confirmed;
        }

        boolean isFullyAhead() {
            return now.tick >= confirmed + AHEAD;
        }

        void begin(int seed, int width) {
            now.clear(seed, width);
            toldCount = 0;
            again = 0;
            forgetInputs();
        }

        private void forgetInputs() {
            confirmed = now.tick;
            for (int i = 0; i < came.length; i++) {
                came[i] = false;
            }
            Arrays.fill(last, 0);
        }

        /** A quiet world has no use for those behind it. */
        World scratch() {
            return behind[0];
        }

        void carry(Program before, Program after) {
            World old = scratch();
            old.copyFrom(now);
            now.carryFrom(old, before, after);
        }

        void adopt(World loaded) {
            now.copyFrom(loaded);
            forgetInputs();
        }

        boolean place(int player, boolean seated) {
            if (player < 0 || player >= PLAYERS || (on >> player & 1) == (seated ? 1 : 0)) {
                return false;
            }
            on ^= 1 << player;
            for (int ahead = 1; ahead <= AHEAD && !seated; ahead++) {
                came[slot(player, now.tick + ahead)] = false;
            }
            return true;
        }

        private static int slot(int player, int tick) {
            return player * KEPT + (tick & KEPT - 1);
        }

        void goOn(Program program) {
            players[now.tick + 1 & AHEAD - 1] = on;
            prepareNext();
            ticker.runTick(program, now, inputs);
            confirm();
        }

        private void prepareNext() {
            behind[now.tick & AHEAD - 1].copyFrom(now);
            int tick = now.tick + 1;
            for (int player = 0; player < PLAYERS; player++) {
                inputs[player] = inputOf(player, tick);
                ranWith[(tick & AHEAD - 1) * PLAYERS + player] = inputs[player];
            }
        }

        /** What a player does in a tick above CONFIRMED: what came for it, else for the latest one before. */
        private int inputOf(int player, int tick) {
            if ((players[tick & AHEAD - 1] >> player & 1) == 0) {
                return 0;
            }
            for (int t = tick; t > confirmed; t--) {
                if (came[slot(player, t)]) {
                    return bits[slot(player, t)];
                }
            }
            return last[player];
        }

        /** Why an input can't come: below 0; or 0. */
        int refusal(int player, int tick) {
            if (player < 0 || player >= PLAYERS) {
                return -1;
            }
            if (tick <= confirmed || tick > now.tick + AHEAD) {
                return -2;
            }
            int seated = tick > now.tick ? on : players[tick & AHEAD - 1];
            if ((seated >> player & 1) == 0) {
                return -3;
            }
            return came[slot(player, tick)] ? -4 : 0;
        }

        /** How many ticks are run again for an input that may come. */
        int accept(Program program, int player, int tick, int newBits) {
            came[slot(player, tick)] = true;
            bits[slot(player, tick)] = newBits;
            int latest = now.tick;
            int wrong = firstWrong(player, tick);
            int count = Math.max(0, latest - wrong + 1);
            if (count > 0) {
                now.copyFrom(behind[wrong - 1 & AHEAD - 1]);
            }
            for (int turn = 0; turn < count; turn++) {
                prepareNext();
                ticker.runTick(program, now, inputs);
            }
            again += count;
            confirm();
            return count;
        }

        /** The first tick from this one on that ran with another input; above NOW if none did. */
        private int firstWrong(int player, int tick) {
            int t = tick;
            while (t <= now.tick && ranWith[(t & AHEAD - 1) * PLAYERS + player] == inputOf(player, t)) {
                t++;
            }
            return t;
        }

        private void confirm() {
            for (int turn = 0; turn < AHEAD && confirmed < now.tick && isKnown(confirmed + 1); turn++) {
                confirmed++;
                for (int player = 0; player < PLAYERS; player++) {
                    int slot = slot(player, confirmed);
                    if (came[slot]) {
                        last[player] = bits[slot];
                        came[slot] = false;
                    }
                }
                tell(confirmed == now.tick ? now : behind[confirmed & AHEAD - 1]);
            }
        }

        private boolean isKnown(int tick) {
            for (int player = 0; player < PLAYERS; player++) {
                if ((players[tick & AHEAD - 1] >> player & 1) == 1 && !came[slot(player, tick)]) {
                    return false;
                }
            }
            return true;
        }

        private void tell(World world) {
            for (int i = 0; i < world.shownCount; i++) {
                told[toldCount & TOLD - 1] = world.shown[i];
                toldCount++;
            }
        }
    }

    /** The OUT, and worlds as bytes. */
    private static final class Store {
        // What the largest world needs is some 57600 bytes.
        private static final int ROOM = 60000;
        private static final int MOST_COUNT = 1000000000;
        private static final int MOST_GENERATION = 8000000;
        private static final int LEAST = Integer.MIN_VALUE;
        private static final int MOST = Integer.MAX_VALUE;

        final byte[] out;
        int length;
        int wrongAt;
        private boolean keeping;
        private int hash;
        private int cursor;

        Store() {
            out = new byte[ROOM];
        }

        /** The sum of the world's bytes, which the OUT has then if they are kept. */
        int write(Program program, World world, boolean kept) {
            keeping = kept;
            hash = 0;
            length = kept ? 0 : length;
            writeByte(87);
            writeByte(69);
            writeShapes(program.components);
            writeShapes(program.events);
            writeInt(world.tick);
            writeInt(world.seed);
            writeInt(world.fails);
            writeInt(world.passed);
            for (int place = 0; place < World.PLACES; place++) {
                writeInt(world.generation[place]);
                writeByte(world.parts[place] >= 0 ? 1 : 0);
                if (world.parts[place] >= 0) {
                    writeEntity(program.components, world, place);
                }
            }
            writeEvents(program.events, world);
            return hash;
        }

        private void writeByte(int v) {
            hash = 31 * hash + (v & 255);
            if (keeping && length < ROOM) {
                out[length] = (byte) v;
                length++;
            }
        }

        private void writeInt(int v) {
            for (int shift = 24; shift >= 0; shift -= 8) {
                writeByte(v >> shift);
            }
        }

        private void writeShapes(Shapes shapes) {
            writeByte(shapes.count);
            for (int head = 0; head < shapes.count; head++) {
                writeByte(shapes.sizeOf(head));
                for (int offset = shapes.first[head]; offset < shapes.first[head + 1]; offset++) {
                    writeByte(shapes.members[offset].kind);
                }
            }
        }

        private void writeEntity(Shapes shapes, World world, int place) {
            writeByte(world.parts[place] >> 8);
            writeByte(world.parts[place]);
            for (int c = 0; c < shapes.count; c++) {
                if (world.owns(place, c)) {
                    for (int offset = shapes.first[c]; offset < shapes.first[c + 1]; offset++) {
                        writeInt(world.read(place, offset));
                    }
                }
            }
        }

        private void writeEvents(Shapes shapes, World world) {
            writeByte(world.pendingCount >> 8);
            writeByte(world.pendingCount);
            for (int k = 0; k < world.pendingCount; k++) {
                int from = k * World.EVENT_WIDTH;
                writeByte(world.pending[from]);
                int size = 2 + shapes.sizeOf(world.pending[from]);
                for (int i = 1; i <= size; i++) {
                    writeInt(world.pending[from + i]);
                }
            }
        }

        /** Whether the OUT is such a world: it is in the scratch then; else it is wrong at wrongAt. */
        boolean restore(Program program, World scratch) {
            cursor = 0;
            scratch.clear(0, program.components.total());
            try {
                readNumber(1, 87, 87);
                readNumber(1, 69, 69);
                readShapes(program.components);
                readShapes(program.events);
                scratch.tick = readNumber(4, 0, MOST_COUNT);
                scratch.seed = readNumber(4, LEAST, MOST);
                scratch.fails = readNumber(4, 0, MOST_COUNT);
                scratch.passed = readNumber(4, 0, MOST_COUNT);
                for (int place = 0; place < World.PLACES; place++) {
                    readPlace(program.components, scratch, place);
                }
                readEvents(program.events, scratch);
                readEnd();
            } catch (IllegalStateException wrong) {
                return false;
            }
            return true;
        }

        /** A number of so many bytes, of which one has no sign; it is wrong outside its bounds. */
        private int readNumber(int bytes, int least, int most) {
            if (bytes > length - cursor) {
                wrongAt = length;
                throw new IllegalStateException("a number is missing");
            }
            int value = 0;
            for (int i = 0; i < bytes; i++) {
                value = value << 8 | out[cursor + i] & 255;
            }
            if (value < least || value > most) {
                wrongAt = cursor;
                throw new IllegalStateException("a number is wrong");
            }
            cursor += bytes;
            return value;
        }

        private void readEnd() {
            if (cursor < length) {
                wrongAt = cursor;
                throw new IllegalStateException("bytes are left");
            }
        }

        private void readShapes(Shapes shapes) {
            readNumber(1, shapes.count, shapes.count);
            for (int head = 0; head < shapes.count; head++) {
                int size = shapes.sizeOf(head);
                readNumber(1, size, size);
                for (int i = 0; i < size; i++) {
                    int kind = shapes.members[shapes.first[head] + i].kind;
                    readNumber(1, kind, kind);
                }
            }
        }

        private void readPlace(Shapes shapes, World scratch, int place) {
            scratch.generation[place] = readNumber(4, 0, MOST_GENERATION);
            if (readNumber(1, 0, 1) == 0) {
                return;
            }
            int parts = readParts(shapes.count);
            scratch.occupy(place, parts);
            for (int c = 0; c < shapes.count; c++) {
                if ((parts >> c & 1) == 1) {
                    for (int offset = shapes.first[c]; offset < shapes.first[c + 1]; offset++) {
                        scratch.write(place, offset, readMember(shapes.members[offset].kind));
                    }
                }
            }
        }

        private int readParts(int count) {
            return readNumber(2, 0, (1 << count) - 1);
        }

        private int readMember(int kind) {
            switch (kind) {
                case Named.BYTE:
                    return readNumber(4, -128, 127);
                case Named.BOOL:
                    return readNumber(4, 0, 1);
                case Named.REF:
                    return readNumber(4, -1, MOST);
                default:
                    return readNumber(4, LEAST, MOST);
            }
        }

        private void readEvents(Shapes shapes, World scratch) {
            int count = readNumber(2, 0, World.MOST_PENDING);
            for (int k = 0; k < count; k++) {
                int to = k * World.EVENT_WIDTH;
                int event = readNumber(1, 0, shapes.count - 1);
                scratch.pending[to] = event;
                scratch.pending[to + 1] = readNumber(4, scratch.tick + 1, scratch.tick + 16);
                scratch.pending[to + 2] = readNumber(4, -1, MOST);
                int size = shapes.sizeOf(event);
                for (int i = 0; i < size; i++) {
                    scratch.pending[to + 3 + i] = readMember(shapes.members[shapes.first[event] + i].kind);
                }
            }
            scratch.pendingCount = count;
        }
    }
}
