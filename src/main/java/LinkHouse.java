import java.util.Arrays;

/** A house that links: texts of classes are judged and made into builds, builds meet in THE WORLD, a machine runs them. */
public final class LinkHouse {
    public static final int BAD = -1;
    public static final int NONE = -2;
    public static final int FULL = -3;

    private static final int LIBRARIES = 5;
    private static final int BUILDS_EACH = 8;
    private static final int BUILDS_ALL = 16;
    private static final int TAPE_MOST = 4000;
    private static final int OUT_MOST = 600;
    private static final int TOKENS = 700;
    private static final int CLASSES = 12;
    private static final int FACES = 4;
    private static final int LISTED = 8;
    private static final int ITEMS = 20;
    private static final int BRIDGES = 12;
    private static final int PARAMS = 4;
    private static final int NESTED = 12;
    private static final int MEMBERS = ITEMS + 1 + BRIDGES;
    private static final int WORLD_MOST = 64;
    private static final int WORD_COUNT = 30;

    /*
     * What 700 tokens and 12 times 12 BRIDGES can need at most. Of tokens each is the one of one USE, one Node and two
     * instructions at most, of BRIDGES each has two USES and seven instructions; an instruction takes two numbers.
     * Members are those told, a maker and what STARTS it of each class, and BRIDGES. (NOTES.md counts it.)
     */
    private static final int BRIDGES_ALL = CLASSES * BRIDGES;
    private static final int USES_MOST = TOKENS + 2 * BRIDGES_ALL;
    private static final int CODE_MOST = 4 * TOKENS + 14 * BRIDGES_ALL;
    private static final int POOL_MOST = CLASSES * (ITEMS + 2 + BRIDGES);
    private static final int NODES_MOST = TOKENS + 100;
    private static final int CHANGES_MOST = 2 * TOKENS + 200;
    private static final int LONG_LOOP = 100000000;

    /* A name is packed into one long, five or six bits a sign; these stand where no name can. */
    private static final long INT = -1L;
    private static final long NULL = -2L;
    private static final long VOID = -3L;
    private static final long NO = -4L;
    private static final long ANY = (25L << 59) | (14L << 48) | (25L << 42);
    private static final long ILL = (25L << 59) | (8L << 54) | (12L << 48) | (12L << 42);
    private static final long CODE = (2L << 54) | (15L << 48) | (4L << 42) | (5L << 36);
    private static final long BUILT_IN_PACKAGE = 25L;

    private static final int OWN = 0;
    private static final int PLAIN = 1;
    private static final int KIN = 2;
    private static final int OPEN = 3;

    private static final int FIELD = 0;
    private static final int METHOD = 1;
    private static final int MAKER = 2;
    private static final int START = 3;

    private static final int AS = 0;
    private static final int WITH = 1;
    private static final int ONLY = 2;

    /* Tokens: signs are 100 and their byte, words 10 and their place in WORDS. */
    private static final String WORDS = "class face as is in with only open kin own final bare static start void new int let if else while return throw try catch out null this super ask ";
    private static final int END = 0;
    private static final int ILLEGIBLE = 1;
    private static final int CLASS_NAME = 2;
    private static final int NAME = 3;
    private static final int NUMBER = 4;
    private static final int W_CLASS = 10;
    private static final int W_FACE = 11;
    private static final int W_AS = 12;
    private static final int W_IS = 13;
    private static final int W_IN = 14;
    private static final int W_WITH = 15;
    private static final int W_ONLY = 16;
    private static final int W_OPEN = 17;
    private static final int W_KIN = 18;
    private static final int W_OWN = 19;
    private static final int W_FINAL = 20;
    private static final int W_BARE = 21;
    private static final int W_STATIC = 22;
    private static final int W_START = 23;
    private static final int W_VOID = 24;
    private static final int W_NEW = 25;
    private static final int W_INT = 26;
    private static final int W_LET = 27;
    private static final int W_IF = 28;
    private static final int W_ELSE = 29;
    private static final int W_WHILE = 30;
    private static final int W_RETURN = 31;
    private static final int W_THROW = 32;
    private static final int W_TRY = 33;
    private static final int W_CATCH = 34;
    private static final int W_OUT = 35;
    private static final int W_NULL = 36;
    private static final int W_THIS = 37;
    private static final int W_SUPER = 38;
    private static final int W_ASK = 39;
    private static final int S_SAME = 99;
    private static final int S_BEGIN = 100 + '{';
    private static final int S_END = 100 + '}';
    private static final int S_LEFT = 100 + '(';
    private static final int S_RIGHT = 100 + ')';
    private static final int S_COMMA = 100 + ',';
    private static final int S_STOP = 100 + ';';
    private static final int S_DOT = 100 + '.';
    private static final int S_PUT = 100 + '=';
    private static final int S_LESS = 100 + '<';
    private static final int S_PLUS = 100 + '+';
    private static final int S_MINUS = 100 + '-';
    private static final int S_TIMES = 100 + '*';

    /* Sorts of nodes. */
    private static final int N_NUMBER = 1;
    private static final int N_NULL = 2;
    private static final int N_THIS = 3;
    private static final int N_NAME = 4;
    private static final int N_CALL = 5;
    private static final int N_OF_CLASS = 6;
    private static final int N_CALL_OF_CLASS = 7;
    private static final int N_SUPER_OF_FACE = 8;
    private static final int N_SUPER = 9;
    private static final int N_NEW = 10;
    private static final int N_CAST = 11;
    private static final int N_ROUND = 12;
    private static final int N_UNIT = 13;
    private static final int N_DOT = 14;
    private static final int N_DOT_CALL = 15;
    private static final int N_ASK = 16;
    private static final int N_CHAIN = 17;
    private static final int N_COMPARE = 18;
    private static final int N_BLOCK = 30;
    private static final int N_LET = 31;
    private static final int N_IF = 32;
    private static final int N_WHILE = 33;
    private static final int N_RETURN = 34;
    private static final int N_THROW = 35;
    private static final int N_TRY = 36;
    private static final int N_OUT = 37;
    private static final int N_SUPER_MAKER = 38;
    private static final int N_PUT = 39;
    private static final int N_DO = 40;

    /* Sorts of USES. */
    private static final int U_MAKE = 1;
    private static final int U_MAKER = 2;
    private static final int U_GET = 3;
    private static final int U_PUT = 4;
    private static final int U_GET_STATIC = 5;
    private static final int U_PUT_STATIC = 6;
    private static final int U_CALL = 7;
    private static final int U_CALL_FACE = 8;
    private static final int U_CALL_STATIC = 9;
    private static final int U_CALL_STATIC_FACE = 10;
    private static final int U_SUPER = 11;
    private static final int U_SUPER_FACE = 12;
    private static final int U_CAST = 13;
    private static final int U_ASK = 14;
    private static final int U_CATCH = 15;
    private static final int U_COPY = 16;
    private static final int U_FIT = 17;
    private static final int U_PARENT = 18;
    private static final int U_FACE = 19;

    /* Failures. */
    private static final int NOT_THERE = 1;
    private static final int NOT_LET = 2;
    private static final int OTHER_SORT = 3;
    private static final int NO_FIELD = 4;
    private static final int NO_METHOD = 5;
    private static final int IS_BARE = 6;
    private static final int NO_MAKING = 7;
    private static final int START_THREW = 8;
    private static final int NEVER_STARTED = 9;
    private static final int RING = 10;
    private static final int UNFIT = 11;
    private static final int NO_CAST = 12;
    private static final int IS_NULL = 13;
    private static final int NO_STEPS = 14;
    private static final int TOO_DEEP = 15;
    private static final int NO_ROOM = 16;
    private static final int IS_STALE = 17;

    /* States of classes in the machine; one that is being LOADED is told as nothing yet. */
    private static final int LOADED = 1;
    private static final int LINKED = 2;
    private static final int STARTING = 3;
    private static final int STARTED = 4;
    private static final int LOADING_FAILED = 5;
    private static final int LINKING_FAILED = 6;
    private static final int STARTING_FAILED = 7;
    private static final int BEING_LOADED = -1;

    /* What the machine does; those from DO_GET on ask a USE. Each has one number behind it. */
    private static final int DO_STEP = 1;
    private static final int DO_PUSH = 2;
    private static final int DO_LOAD = 3;
    private static final int DO_STORE = 4;
    private static final int DO_DROP = 5;
    private static final int DO_TWICE = 6;
    private static final int DO_PLUS = 7;
    private static final int DO_MINUS = 8;
    private static final int DO_TIMES = 9;
    private static final int DO_LESS = 10;
    private static final int DO_SAME = 11;
    private static final int DO_JUMP = 12;
    private static final int DO_JUMP_ZERO = 13;
    private static final int DO_OUT = 14;
    private static final int DO_THROW = 15;
    private static final int DO_TRY = 16;
    private static final int DO_TRIED = 17;
    private static final int DO_RETURN = 18;
    private static final int DO_GIVE = 19;
    private static final int DO_FIELDS = 20;
    private static final int DO_BACK = 21;
    private static final int DO_STARTED = 22;
    private static final int DO_FILL = 23;
    private static final int DO_FILL_STATIC = 24;
    private static final int DO_GET = 30;
    private static final int DO_PUT = 31;
    private static final int DO_GET_STATIC = 32;
    private static final int DO_PUT_STATIC = 33;
    private static final int DO_CALL = 34;
    private static final int DO_NEW = 35;
    private static final int DO_MAKER = 36;
    private static final int DO_CAST = 37;
    private static final int DO_ASK = 38;
    private static final int DO_CATCH = 39;

    private static final int STEPS_MOST = 20000;
    private static final int CALLS_MOST = 24;
    private static final int OBJECTS_MOST = 200;
    private static final int FIELDS_MOST = 2000;
    private static final int OUTS_MOST = 100;
    private static final int STACK_MOST = 24000;
    private static final int STACK_SPARE = 800;

    private final byte[] tape = new byte[TAPE_MOST];
    private int tapeLength;
    private final byte[] out = new byte[OUT_MOST];
    private int outLength;
    private final Build[] store = new Build[BUILDS_ALL + 1];
    private final int[] built = new int[LIBRARIES];
    private final int[] standing = new int[LIBRARIES];
    private final int[] trial = new int[LIBRARIES];
    private final Reader reader = new Reader();
    private final Judge judge = new Judge();
    private final Bodies bodies = new Bodies();
    private final Emitter emitter = new Emitter();
    private int faultPlace = NONE;
    private final World world = new World();
    private final World spare = new World();
    private final Loader meeter = new Loader(0);
    private final Loader checker = new Loader(0);
    private final int[] lost = new int[3 * USES_MOST * LIBRARIES];
    private int lostCount;
    private final Differ differ = new Differ();
    private final Machine machine = new Machine();

    public LinkHouse() {
        for (int i = 0; i < store.length; i++) {
            store[i] = new Build(CLASSES, POOL_MOST, TAPE_MOST, TOKENS, USES_MOST, CODE_MOST);
        }
        Arrays.fill(standing, NONE);
        gather(world, standing);
        machine.clear(world);
    }

    public int feed(int a, int b, int c, int d, int e) {
        if (tapeLength + 20 > TAPE_MOST) {
            return FULL;
        }
        fourBytes(a);
        fourBytes(b);
        fourBytes(c);
        fourBytes(d);
        fourBytes(e);
        return tapeLength;
    }

    private void fourBytes(int word) {
        for (int shift = 24; shift >= 0 && tapeLength < TAPE_MOST; shift -= 8) {
            tape[tapeLength] = (byte) (word >>> shift);
            tapeLength++;
        }
    }

    public int cut(int n) {
        if (n < 0 || n > tapeLength) {
            return BAD;
        }
        tapeLength -= n;
        return tapeLength;
    }

    public int splice(int at, int n, int k) {
        if (k < 0 || k > tapeLength) {
            return BAD;
        }
        int others = tapeLength - k;
        if (at < 0 || at > others || n < 0 || n > others - at) {
            return BAD;
        }
        byte[] moved = unused().text;
        System.arraycopy(tape, others, moved, 0, k);
        System.arraycopy(tape, at + n, tape, at + k, others - at - n);
        System.arraycopy(moved, 0, tape, at, k);
        tapeLength -= n;
        return tapeLength;
    }

    public int text(int lib, int build) {
        Build b = buildOf(lib, build);
        if (b == null) {
            return BAD;
        }
        System.arraycopy(b.text, 0, tape, 0, b.length);
        tapeLength = b.length;
        return tapeLength;
    }

    public int size() {
        return outLength;
    }

    public int octet(int i) {
        return i < 0 || i >= outLength ? BAD : out[i] & 255;
    }

    private static boolean isLibrary(int lib) {
        return lib >= 0 && lib < LIBRARIES;
    }

    private Build buildOf(int lib, int build) {
        int n = allBuilt();
        for (int i = 0; i < n; i++) {
            if (store[i].library == lib && store[i].number == build) {
                return store[i];
            }
        }
        return null;
    }

    /** The build at hand: the first of the store that is none yet; there is one more than can be made. */
    private Build unused() {
        return store[Math.min(allBuilt(), BUILDS_ALL)];
    }

    private Row rowOf(int lib, int build, int k) {
        Build b = buildOf(lib, build);
        return b == null || k < 0 || k >= b.rowCount ? null : b.rows[k];
    }

    private int allBuilt() {
        int n = 0;
        for (int i = 0; i < LIBRARIES; i++) {
            n += built[i];
        }
        return n;
    }

    private boolean isFull(int lib) {
        return built[lib] >= BUILDS_EACH || allBuilt() >= BUILDS_ALL;
    }

    /** A world of these builds. */
    private void gather(World w, int[] which) {
        w.clear();
        for (int i = 0; i < LIBRARIES; i++) {
            w.enter(buildOf(i, which[i]));
        }
        w.settle();
    }

    public int make(int lib) {
        if (!isLibrary(lib)) {
            return BAD;
        }
        if (isFull(lib)) {
            return FULL;
        }
        int size = tapeLength;
        tapeLength = 0;
        Build made = unused();
        if (!reader.read(made, tape, size)) {
            return faulted(reader.fault, reader.faultToken);
        }
        spare.clear();
        spare.enter(made);
        for (int i = 0; i < LIBRARIES; i++) {
            spare.enter(i == lib ? null : buildOf(i, standing[i]));
        }
        spare.settle();
        if (!judge.judge(spare, made)) {
            return faulted(judge.fault, judge.faultToken);
        }
        if (!bodies.judge(spare, made, reader)) {
            return faulted(bodies.fault, bodies.faultToken);
        }
        emitter.write(spare, made);
        reader.keep();
        faultPlace = NONE;
        return keep(made, lib);
    }

    private int faulted(int fault, int token) {
        faultPlace = reader.from[token];
        return -10 - fault;
    }

    /** The build at hand becomes one of a library's: its number. */
    private int keep(Build made, int lib) {
        made.library = lib;
        made.number = built[lib];
        built[lib]++;
        return made.number;
    }

    public int place() {
        return faultPlace;
    }

    public int builds(int lib) {
        return isLibrary(lib) ? built[lib] : BAD;
    }

    public int pick(int lib, int build) {
        if (!isLibrary(lib) || build != NONE && buildOf(lib, build) == null) {
            return BAD;
        }
        int old = standing[lib];
        standing[lib] = build;
        renewWorld();
        return old;
    }

    private void renewWorld() {
        gather(world, standing);
        machine.clear(world);
        lostCount = 0;
    }

    public int picked(int lib) {
        return isLibrary(lib) ? standing[lib] : BAD;
    }

    public int classes(int lib, int build) {
        Build b = buildOf(lib, build);
        return b == null ? BAD : b.rowCount;
    }

    public int members(int lib, int build, int k) {
        Row r = rowOf(lib, build, k);
        return r == null ? BAD : r.memberCount;
    }

    public int shape(int lib, int build, int k, int m) {
        Row r = rowOf(lib, build, k);
        if (r == null || m != NONE && (m < 0 || m >= r.memberCount)) {
            return BAD;
        }
        outLength = 0;
        if (m == NONE) {
            tellHead(r);
        } else {
            tellMember(r.members[m]);
        }
        return outLength;
    }

    private void tellHead(Row r) {
        tellText(r.open ? "open " : "");
        tellText(r.last ? "final " : r.bare ? "bare " : "");
        tellText(r.face ? "face " : "class ");
        tellType(r.name);
        if (r.told) {
            tellText(" is ");
            tellType(r.parent);
        }
        tellList(r, AS, " as ");
        if (r.within != NO) {
            tellText(" in ");
            tellType(r.within);
        }
        tellList(r, WITH, " with ");
        tellList(r, ONLY, " only ");
    }

    private void tellList(Row r, int which, String word) {
        for (int i = 0; i < r.counts[which]; i++) {
            tellText(i == 0 ? word : ",");
            tellType(r.listedAt(which, i));
        }
    }

    private void tellMember(Member m) {
        tellText(m.bridge ? "bridge " : "");
        tellText(m.access == OPEN ? "open " : m.access == KIN ? "kin " : m.access == OWN ? "own " : "");
        tellText(m.fixed ? "static " : "");
        tellText(m.last ? "final " : m.bare ? "bare " : "");
        if (m.kind == MAKER) {
            tellText("new");
            tellParams(m);
            return;
        }
        tellType(m.type);
        tellText(" ");
        tellName(m.name);
        if (m.kind == METHOD) {
            tellParams(m);
        } else if (m.constant) {
            tellText("=");
            tellNumber(m.worth);
        }
    }

    private void tellByte(int c) {
        if (outLength < OUT_MOST) {
            out[outLength] = (byte) c;
            outLength++;
        }
    }

    private void tellText(String s) {
        for (int i = 0; i < s.length(); i++) {
            tellByte(s.charAt(i));
        }
    }

    private void tellNumber(long n) {
        long left = n < 0 ? -n : n;
        long unit = 1;
        for (int i = 0; i < 18 && unit <= left / 10; i++) {
            unit *= 10;
        }
        if (n < 0) {
            tellByte('-');
        }
        for (int i = 0; i < 19 && unit > 0; i++) {
            tellByte('0' + (int) (left / unit % 10));
            unit /= 10;
        }
    }

    private void tellType(long type) {
        if (type == INT || type == VOID) {
            tellText(type == INT ? "int" : "void");
            return;
        }
        tellByte('a' + (int) (type >>> 59));
        tellByte('.');
        tellByte('A' + (int) (type >>> 54 & 31));
        tellLetters(type);
    }

    private void tellName(long name) {
        tellByte('a' + (int) (name >>> 54 & 31));
        tellLetters(name);
    }

    /** The six bits a sign behind the first. */
    private void tellLetters(long name) {
        for (int shift = 48; shift >= 0; shift -= 6) {
            int six = (int) (name >>> shift & 63);
            if (six > 0) {
                tellByte(six <= 26 ? 'a' + six - 1 : six <= 52 ? 'A' + six - 27 : '0' + six - 53);
            }
        }
    }

    private void tellParams(Member m) {
        tellText("(");
        for (int i = 0; i < m.count; i++) {
            tellText(i == 0 ? "" : ",");
            tellType(m.param[i]);
        }
        tellText(")");
    }

    /** A member behind its C, as USES 2 .. 12 tell it. */
    private void tellUsed(long owner, Member m) {
        tellType(owner);
        tellText(".");
        if (m.kind == MAKER) {
            tellText("new");
            tellParams(m);
            return;
        }
        tellName(m.name);
        if (m.kind == METHOD) {
            tellParams(m);
        } else {
            tellText(":");
        }
        tellType(m.type);
    }

    public int uses(int lib, int build) {
        Build b = buildOf(lib, build);
        return b == null ? BAD : b.useCount;
    }

    private static boolean hasUse(Build b, int u) {
        return b != null && u >= 0 && u < b.useCount;
    }

    public int use(int lib, int build, int u, int what) {
        Build b = buildOf(lib, build);
        if (!hasUse(b, u) || what < 0 || what > 1) {
            return BAD;
        }
        return what == 0 ? b.useSort[u] : b.useOwner[u];
    }

    public int tell(int lib, int build, int u) {
        Build b = buildOf(lib, build);
        if (!hasUse(b, u)) {
            return BAD;
        }
        outLength = 0;
        int sort = b.useSort[u];
        Member m = b.useMember[u];
        tellNumber(sort);
        tellText(" ");
        if (sort == U_COPY && m != null) {
            tellType(b.useClass[u]);
            tellText(".");
            tellName(m.name);
            tellText("=");
            tellNumber(b.useOther[u]);
        } else if (m != null) {
            tellUsed(b.useClass[u], m);
        } else {
            tellType(b.useClass[u]);
            if (sort == U_FIT) {
                tellText(">");
                tellType(b.useOther[u]);
            }
        }
        return outLength;
    }

    /** The class of a USE in THE WORLD; NONE if its build does not stand there, or the class is another library's. */
    private int whereUsed(int lib, int build, int u) {
        Build b = buildOf(lib, build);
        if (b == null || standing[lib] != build) {
            return NONE;
        }
        Row r = b.rows[b.useOwner[u]];
        int x = world.find(r.name);
        return x >= 0 && world.row[x] == r ? x : NONE;
    }

    public int meet(int lib, int build, int u) {
        if (!hasUse(buildOf(lib, build), u)) {
            return BAD;
        }
        int x = whereUsed(lib, build, u);
        if (x < 0) {
            return NONE;
        }
        meeter.clear(world);
        return meeter.ask(x, u - world.row[x].useFrom);
    }

    public int met() {
        outLength = 0;
        if (meeter.found != null) {
            tellUsed(meeter.foundName, meeter.found);
        }
        return outLength;
    }

    public int looked(int i) {
        return i < 0 || i >= meeter.lookedCount ? BAD : meeter.looked[i];
    }

    public int broken() {
        lostCount = 0;
        return countBroken(world, standing, true);
    }

    /** USES, but 16, that meet failures; all of them are listed, or the first ends it. */
    private int countBroken(World w, int[] which, boolean lists) {
        int n = 0;
        for (int lib = 0; lib < LIBRARIES; lib++) {
            Build b = buildOf(lib, which[lib]);
            for (int k = 0; b != null && k < b.rowCount; k++) {
                Row r = b.rows[k];
                int x = w.find(r.name);
                checker.clear(w);
                checker.load(x < 0 ? 0 : x);
                int mark = checker.trailCount;
                for (int u = 0; u < r.useCount && x >= 0 && w.row[x] == r; u++) {
                    int f = b.useSort[r.useFrom + u] == U_COPY ? 0 : checker.ask(x, u);
                    checker.undo(mark);
                    if (f != 0) {
                        n++;
                        if (!lists) {
                            return n;
                        }
                        list(lib, r.useFrom + u, f);
                    }
                }
            }
        }
        return n;
    }

    private void list(int lib, int u, int failure) {
        if (3 * lostCount + 2 < lost.length) {
            lost[3 * lostCount] = lib;
            lost[3 * lostCount + 1] = u;
            lost[3 * lostCount + 2] = failure;
            lostCount++;
        }
    }

    public int brokenAt(int i, int what) {
        return i < 0 || i >= lostCount || what < 0 || what > 2 ? BAD : lost[3 * i + what];
    }

    public int stale() {
        int n = 0;
        checker.clear(world);
        for (int lib = 0; lib < LIBRARIES; lib++) {
            Build b = buildOf(lib, standing[lib]);
            for (int u = 0; b != null && u < b.useCount; u++) {
                int x = b.useSort[u] == U_COPY ? whereUsed(lib, standing[lib], u) : NONE;
                n += x >= 0 && checker.ask(x, u - world.row[x].useFrom) != 0 ? 1 : 0;
            }
        }
        return n;
    }

    public int choose() {
        int worlds = 1;
        for (int i = 0; i < LIBRARIES; i++) {
            trial[i] = greatest(i);
            worlds *= Math.max(built[i], 1);
        }
        for (int tried = 1; tried <= worlds; tried++) {
            gather(spare, trial);
            if (countBroken(spare, trial, false) == 0) {
                System.arraycopy(trial, 0, standing, 0, LIBRARIES);
                renewWorld();
                return tried;
            }
            lowerTrial();
        }
        return NONE;
    }

    private int greatest(int lib) {
        return built[lib] == 0 ? NONE : built[lib] - 1;
    }

    /** The next world to be tried: the last library changes first. */
    private void lowerTrial() {
        for (int i = LIBRARIES - 1; i >= 0; i--) {
            if (trial[i] > 0) {
                trial[i]--;
                return;
            }
            trial[i] = greatest(i);
        }
    }

    public int differ(int lib, int a, int b) {
        Build one = buildOf(lib, a);
        Build other = buildOf(lib, b);
        return one == null || other == null ? BAD : differ.compare(one, other, true);
    }

    public int change(int i, int what) {
        return i < 0 || i >= differ.count || what < 0 || what >= Differ.ENTRY ? BAD : differ.list[Differ.ENTRY * i + what];
    }

    public int word(int lib, int a, int b) {
        Build one = buildOf(lib, a);
        Build other = buildOf(lib, b);
        if (one == null || other == null) {
            return BAD;
        }
        differ.compare(one, other, false);
        return differ.grade;
    }

    public int weave(int lib, int a, int b) {
        Build old = buildOf(lib, a);
        Build young = buildOf(lib, b);
        if (old == null || young == null) {
            return BAD;
        }
        System.arraycopy(standing, 0, trial, 0, LIBRARIES);
        trial[lib] = b;
        gather(spare, trial);
        Build woven = unused();
        woven.clear();
        System.arraycopy(young.code, 0, woven.code, 0, young.codeCount);
        woven.codeCount = young.codeCount;
        int healed = 0;
        boolean full = isFull(lib);
        for (int k = 0; k < young.rowCount; k++) {
            emitter.copyRow(woven, young, k);
            Row r = woven.rows[k];
            Row was = old.named(r.name);
            for (int i = 0; was != null && was.face == r.face && i < was.memberCount; i++) {
                Member m = was.members[i];
                Member now = m.kind == METHOD && !m.bridge && m.access != OWN ? healing(r, m) : null;
                if (now != null) {
                    healed++;
                    full |= r.bridges() >= BRIDGES;
                    if (!full) {
                        emitter.addWoven(Judge.addBridge(woven, r, now, m.type), now);
                    }
                }
            }
        }
        if (healed == 0 || full) {
            return healed == 0 ? NONE : FULL;
        }
        System.arraycopy(young.text, 0, woven.text, 0, young.length);
        woven.length = young.length;
        System.arraycopy(young.from, 0, woven.from, 0, young.from.length);
        System.arraycopy(young.to, 0, woven.to, 0, young.to.length);
        return keep(woven, lib);
    }

    /** The method of r that a BRIDGE can call for a lost one m, or null. */
    private Member healing(Row r, Member m) {
        if (r.method(m) != null) {
            return null;
        }
        Member now = r.plain(m);
        if (now == null || now.bare || now.access == OWN || now.fixed != m.fixed) {
            return null;
        }
        return now.type != INT && now.type != VOID && spare.fits(now.type, m.type) ? now : null;
    }

    public int fresh() {
        int n = 0;
        for (int x = 2; x < world.count; x++) {
            n += machine.loader.isLoaded(x) ? 1 : 0;
        }
        machine.clear(world);
        return n;
    }

    public int touch(int lib, int build, int u) {
        if (!hasUse(buildOf(lib, build), u)) {
            return BAD;
        }
        int x = whereUsed(lib, build, u);
        return x < 0 ? NONE : machine.loader.ask(x, u - world.row[x].useFrom);
    }

    public int run() {
        boolean just = reader.isCall(tape, tapeLength);
        tapeLength = 0;
        int c = just ? world.find(reader.code[0]) : NONE;
        Member m = c < 0 ? null : runnable(world.row[c], reader.code[2]);
        if (m == null) {
            return NONE;
        }
        machine.open(c);
        for (int i = 0; i < LONG_LOOP && machine.depth > 0; i++) {
            machine.turn();
        }
        if (machine.failure == 0) {
            machine.call(c, m, 0, METHOD);
        }
        for (int i = 0; i < LONG_LOOP && machine.depth > 0; i++) {
            machine.turn();
        }
        if (machine.failure != 0) {
            return -10 - machine.failure;
        }
        return machine.thrown == 0 ? 1 : 2;
    }

    private static Member runnable(Row r, long name) {
        for (int i = 0; i < r.memberCount; i++) {
            Member m = r.members[i];
            if (m.kind == METHOD && m.name == name && m.fixed && m.block && m.count == 0) {
                return m;
            }
        }
        return null;
    }

    public int value() {
        return machine.thrown == 0 ? machine.given : machine.thrown;
    }

    public int told(int what) {
        switch (what) {
            case 0:
                return machine.steps;
            case 1:
                return machine.outs;
            case 2:
                return machine.objects;
            case 3:
                return machine.fields;
            case 4:
                return machine.loader.eventCount;
            case 5:
                return world.count;
            case 6:
                return tapeLength;
            case 7:
                return allBuilt();
            default:
                return BAD;
        }
    }

    public int number(int i) {
        return i < 0 || i >= machine.outs ? 0 : machine.out[i];
    }

    public int event(int i) {
        return i < 0 || i >= machine.loader.eventCount ? BAD : machine.loader.event[i];
    }

    public int name(int k) {
        if (k < 0 || k >= world.count) {
            return BAD;
        }
        outLength = 0;
        tellType(world.row[k].name);
        return outLength;
    }

    public int state(int k) {
        return k < 0 || k >= world.count ? BAD : machine.loader.state[k];
    }

    public int classOf(int object) {
        return object < 1 || object > machine.objects ? BAD : machine.objectClass[object];
    }

    public int fieldOf(int object, int k) {
        if (object < 1 || object > machine.objects || k < 0 || k >= machine.slotsTo(machine.objectClass[object])) {
            return 0;
        }
        return machine.field[machine.objectFrom[object] + k];
    }

    /** A node of the tree of one MEMBER's BLOCK or E; what the judging finds stands in it too. */
    private static final class Node {
        int kind;
        int first;
        int tok;
        int op;
        int slot;
        Node a;
        Node b;
        Node c;
        Node next;
        long type;
        long owner;
        Member member;

        void clear(int newKind, int newFirst) {
            kind = newKind;
            first = newFirst;
            tok = newFirst;
            op = 0;
            slot = -1;
            a = null;
            b = null;
            c = null;
            next = null;
            type = NO;
            owner = NO;
            member = null;
        }
    }

    /** A field, method, maker or start of a class. */
    private static final class Member {
        int kind;
        int access;
        boolean fixed;
        boolean last;
        boolean bare;
        boolean bridge;
        boolean block;
        long name;
        long type;
        int count;
        final long[] param = new long[PARAMS];
        int tok;
        int from;
        int to;
        Node body;
        boolean constant;
        int worth;
        int code;
        int locals;

        void clear() {
            kind = FIELD;
            access = PLAIN;
            fixed = false;
            last = false;
            bare = false;
            bridge = false;
            block = false;
            name = NO;
            type = VOID;
            count = 0;
            Arrays.fill(param, NO);
            tok = 0;
            from = 0;
            to = 0;
            body = null;
            constant = false;
            worth = 0;
            code = 0;
            locals = 0;
        }

        boolean sameParams(Member m) {
            return count == m.count && param[0] == m.param[0] && param[1] == m.param[1]
                && param[2] == m.param[2] && param[3] == m.param[3];
        }

        /** Of this NAME, PARAMS and RESULT; what is behind the count stays NO, so all four can be held together. */
        boolean like(Member m) {
            return name == m.name && type == m.type && count == m.count && param[0] == m.param[0]
                && param[1] == m.param[1] && param[2] == m.param[2] && param[3] == m.param[3];
        }

        boolean ofObjects() {
            return !fixed && access != OWN;
        }
    }

    /** A class or face of a build. */
    private static final class Row {
        Build home;
        long name;
        int tok;
        boolean open;
        boolean face;
        boolean last;
        boolean bare;
        boolean told;
        long parent;
        long within;
        final long[] listed = new long[3 * LISTED];
        final int[] counts = new int[3];
        final Member[] items = new Member[ITEMS];
        int itemCount;
        final Member[] members = new Member[MEMBERS];
        int memberCount;
        int useFrom;
        int useCount;
        Member begin;
        int fieldCode;
        int slots;

        void clear(Build newHome) {
            home = newHome;
            name = NO;
            tok = 0;
            open = false;
            face = false;
            last = false;
            bare = false;
            told = false;
            parent = ANY;
            within = NO;
            Arrays.fill(counts, 0);
            itemCount = 0;
            memberCount = 0;
            useFrom = 0;
            useCount = 0;
            begin = null;
            fieldCode = 0;
            slots = 0;
        }

        void add(Member m) {
            if (memberCount < members.length) {
                members[memberCount] = m;
                memberCount++;
            }
        }

        void addItem(Member m) {
            if (itemCount < items.length) {
                items[itemCount] = m;
                itemCount++;
            }
        }

        void list(int which, long what) {
            if (counts[which] < LISTED) {
                listed[which * LISTED + counts[which]] = what;
                counts[which]++;
            }
        }

        long listedAt(int which, int i) {
            return listed[which * LISTED + i];
        }

        boolean has(int which, long what) {
            for (int i = 0; i < counts[which]; i++) {
                if (listed[which * LISTED + i] == what) {
                    return true;
                }
            }
            return false;
        }

        Member method(Member sig) {
            for (int i = 0; i < memberCount; i++) {
                Member m = members[i];
                if (m.name == sig.name && m.type == sig.type && m.kind == METHOD && m.count == sig.count
                    && m.param[0] == sig.param[0] && m.param[1] == sig.param[1]
                    && m.param[2] == sig.param[2] && m.param[3] == sig.param[3]) {
                    return m;
                }
            }
            return null;
        }

        /** The method of a NAME and PARAMS that is no BRIDGE. */
        Member plain(Member sig) {
            for (int i = 0; i < memberCount; i++) {
                Member m = members[i];
                if (m.kind == METHOD && !m.bridge && m.name == sig.name && m.sameParams(sig)) {
                    return m;
                }
            }
            return null;
        }

        Member maker(Member sig) {
            for (int i = 0; i < memberCount; i++) {
                Member m = members[i];
                if (m.kind == MAKER && m.sameParams(sig)) {
                    return m;
                }
            }
            return null;
        }

        /** The field of a NAME, and of a type if that is not NO. */
        Member field(long wanted, long type) {
            for (int i = 0; i < memberCount; i++) {
                Member m = members[i];
                if (m.kind == FIELD && m.name == wanted && (type == NO || m.type == type)) {
                    return m;
                }
            }
            return null;
        }

        int bridges() {
            int n = 0;
            for (int i = 0; i < memberCount; i++) {
                n += members[i].bridge ? 1 : 0;
            }
            return n;
        }

        boolean hasMaker() {
            for (int i = 0; i < memberCount; i++) {
                if (members[i].kind == MAKER) {
                    return true;
                }
            }
            return false;
        }

        /** Whether a class STARTS this face. */
        boolean hasRunning() {
            for (int i = 0; i < memberCount; i++) {
                Member m = members[i];
                if (m.kind == METHOD && !m.bare && !m.fixed) {
                    return true;
                }
            }
            return false;
        }
    }

    /** A build: its text, its classes, their USES, and what runs. All that it can need is made with it. */
    private static final class Build {
        int library;
        int number;
        final Row[] rows;
        int rowCount;
        final Member[] pool;
        int poolCount;
        final byte[] text;
        int length;
        final int[] from;
        final int[] to;
        final int[] useSort;
        final int[] useOwner;
        final long[] useClass;
        final Member[] useMember;
        final long[] useOther;
        int useCount;
        final int[] code;
        int codeCount;

        Build(int rowsMost, int poolMost, int textMost, int tokensMost, int usesMost, int codeMost) {
            rows = new Row[rowsMost];
            for (int i = 0; i < rowsMost; i++) {
                rows[i] = new Row();
            }
            pool = new Member[poolMost];
            for (int i = 0; i < poolMost; i++) {
                pool[i] = new Member();
            }
            text = new byte[textMost];
            from = new int[tokensMost];
            to = new int[tokensMost];
            useSort = new int[usesMost];
            useOwner = new int[usesMost];
            useClass = new long[usesMost];
            useMember = new Member[usesMost];
            useOther = new long[usesMost];
            code = new int[codeMost];
        }

        void clear() {
            rowCount = 0;
            poolCount = 0;
            length = 0;
            useCount = 0;
            codeCount = 0;
        }

        /** One class more, or null beyond the last. */
        Row newRow() {
            if (rowCount >= rows.length) {
                return null;
            }
            Row r = rows[rowCount];
            rowCount++;
            r.clear(this);
            return r;
        }

        /** A member more; the pool has room for all that a text of 700 tokens and its BRIDGES can have. */
        Member newMember() {
            if (poolCount >= pool.length) {
                poolCount = pool.length - 1;
            }
            Member m = pool[poolCount];
            poolCount++;
            m.clear();
            return m;
        }

        int indexOf(Row r) {
            for (int i = 0; i < rowCount; i++) {
                if (rows[i] == r) {
                    return i;
                }
            }
            return NONE;
        }

        Row named(long name) {
            for (int i = 0; i < rowCount; i++) {
                if (rows[i].name == name) {
                    return rows[i];
                }
            }
            return null;
        }

        /** One instruction more: where its number stands. */
        int emit(int what, int number) {
            if (codeCount + 2 > code.length) {
                return NONE;
            }
            code[codeCount] = what;
            code[codeCount + 1] = number;
            codeCount += 2;
            return codeCount - 1;
        }

        void patch(int at) {
            if (at >= 0 && at < code.length) {
                code[at] = codeCount;
            }
        }
    }

    /** Reads a text into a build: FAULTS 1, 2, 3. */
    private static final class Reader {
        final long[] words = new long[WORD_COUNT];
        final int[] kind = new int[TOKENS + 4];
        final int[] from = new int[TOKENS + 4];
        final int[] to = new int[TOKENS + 4];
        final long[] code = new long[TOKENS + 4];
        int count;
        byte[] text;
        int length;
        int at;
        int fault;
        int faultToken;
        Build build;
        int behindHead;
        final Node[] nodes = new Node[NODES_MOST];
        int nodeCount;

        Reader() {
            for (int i = 0; i < NODES_MOST; i++) {
                nodes[i] = new Node();
            }
            int word = 0;
            int shift = 0;
            for (int i = 0; i < WORDS.length() && word < WORD_COUNT; i++) {
                char c = WORDS.charAt(i);
                if (c == ' ') {
                    word++;
                    shift = 0;
                } else if (shift == 0) {
                    words[word] = (long) (c - 'a') << 54;
                    shift = 48;
                } else {
                    words[word] |= sixBits(c) << shift;
                    shift -= 6;
                }
            }
        }

        boolean read(Build b, byte[] tape, int size) {
            build = b;
            build.clear();
            fault = 0;
            faultToken = 0;
            nodeCount = 0;
            scanAll(tape, size);
            for (int turn = 0; turn <= TOKENS && fault == 0 && now() != END; turn++) {
                Row r = readHead();
                for (int k = 0; r != null && k <= ITEMS && now() != S_END && fault == 0; k++) {
                    readMember(r);
                    if (fault == 0 && behindHead != END && r.itemCount > 0) {
                        readBody(r.items[r.itemCount - 1]);
                    }
                }
                if (fault == 0) {
                    need(S_END);
                }
            }
            return fault == 0;
        }

        private void scanAll(byte[] tape, int size) {
            text = tape;
            length = size;
            count = 0;
            at = 0;
            int i = 0;
            for (int turn = 0; turn < TOKENS + 2 && i >= 0; turn++) {
                i = scan(i);
            }
            kind[count] = END;
            from[count] = length;
            to[count] = length;
        }

        /** Whether a tape is C.NAME, just so; its names stand in code 0 and 2 then. */
        boolean isCall(byte[] tape, int size) {
            scanAll(tape, size);
            return count == 3 && kind[0] == CLASS_NAME && kind[1] == S_DOT && kind[2] == NAME
                && from[0] == 0 && from[1] == to[0] && from[2] == to[1] && to[2] == size;
        }

        /** The text and its tokens' places stay with the build. */
        void keep() {
            System.arraycopy(text, 0, build.text, 0, Math.min(length, build.text.length));
            build.length = length;
            System.arraycopy(from, 0, build.from, 0, Math.min(count, build.from.length));
            System.arraycopy(to, 0, build.to, 0, Math.min(count, build.to.length));
        }

        /** One token from byte i on: where it ends, or below 0 when there is none more to be scanned. */
        private int scan(int start) {
            int i = start;
            while (i < length && (text[i] == 10 || text[i] == 32)) {
                i++;
            }
            if (i >= length) {
                return NONE;
            }
            int end = i + 1;
            int c = text[i];
            if (c >= 'a' && c <= 'z') {
                end = scanName(i);
            } else if (c >= '0' && c <= '9') {
                end = scanNumber(i);
            } else {
                boolean same = c == '=' && i + 1 < length && text[i + 1] == '=';
                end = same ? i + 2 : i + 1;
                kind[count] = same ? S_SAME : isSign(c) ? 100 + c : ILLEGIBLE;
            }
            from[count] = i;
            to[count] = end;
            count++;
            return kind[count - 1] == ILLEGIBLE ? NONE : end;
        }

        private static boolean isSign(int c) {
            return c == '{' || c == '}' || c == '(' || c == ')' || c == ',' || c == ';' || c == '.' || c == '='
                || c == '<' || c == '+' || c == '-' || c == '*';
        }

        private int scanNumber(int start) {
            int i = start;
            long n = 0;
            while (i < length && text[i] >= '0' && text[i] <= '9') {
                n = i - start < 9 ? n * 10 + (text[i] - '0') : n;
                i++;
            }
            kind[count] = i - start > 9 ? ILLEGIBLE : NUMBER;
            code[count] = n;
            return i;
        }

        private int scanName(int start) {
            boolean isClass = start + 2 < length && text[start + 1] == '.' && text[start + 2] >= 'A' && text[start + 2] <= 'Z';
            long packed = isClass
                ? (long) (text[start] - 'a') << 59 | (long) (text[start + 2] - 'A') << 54
                : (long) (text[start] - 'a') << 54;
            int i = isClass ? start + 3 : start + 1;
            int shift = 48;
            while (i < length && sixBits(text[i]) > 0) {
                packed |= shift >= 0 ? sixBits(text[i]) << shift : 0;
                shift -= 6;
                i++;
            }
            kind[count] = i - start > (isClass ? 11 : 10) ? ILLEGIBLE : isClass ? CLASS_NAME : NAME;
            code[count] = packed;
            for (int w = 0; w < WORD_COUNT && kind[count] == NAME; w++) {
                if (words[w] == packed) {
                    kind[count] = W_CLASS + w;
                }
            }
            return i;
        }

        /** A letter or digit as 1 .. 62; 0 for another sign. */
        private static long sixBits(int c) {
            if (c >= 'a' && c <= 'z') {
                return c - 'a' + 1;
            }
            if (c >= 'A' && c <= 'Z') {
                return c - 'A' + 27;
            }
            return c >= '0' && c <= '9' ? c - '0' + 53 : 0;
        }

        private int now() {
            return at <= count ? kind[at] : END;
        }

        private int behind() {
            return at + 1 <= count ? kind[at + 1] : END;
        }

        private boolean stop(int number) {
            if (fault == 0) {
                fault = number;
                faultToken = at;
            }
            return false;
        }

        /** The token at hand can't stand there. */
        private boolean miss() {
            if (fault == 0) {
                fault = at <= count && kind[at] == ILLEGIBLE ? 1 : 2;
                faultToken = at;
            }
            return false;
        }

        /** The token at hand can stand there; it may be one too many. */
        private boolean take() {
            if (at >= TOKENS) {
                return stop(3);
            }
            at++;
            return true;
        }

        private boolean need(int wanted) {
            if (at > count || kind[at] != wanted) {
                return miss();
            }
            if (at >= TOKENS) {
                return stop(3);
            }
            at++;
            return true;
        }

        private Node node(int sort, int first) {
            if (nodeCount >= nodes.length) {
                nodeCount = nodes.length - 1;
            }
            Node n = nodes[nodeCount];
            nodeCount++;
            n.clear(sort, first);
            return n;
        }

        private Row readHead() {
            boolean open = now() == W_OPEN;
            if (open && !take()) {
                return null;
            }
            int sort = now();
            if ((sort == W_FINAL || sort == W_BARE) && !take()) {
                return null;
            }
            boolean isFace = now() == W_FACE && sort == W_FACE;
            if (!isFace && now() != W_CLASS) {
                miss();
                return null;
            }
            if (!take()) {
                return null;
            }
            if (now() != CLASS_NAME) {
                miss();
                return null;
            }
            Row r = build.newRow();
            if (r == null) {
                stop(3);
                return null;
            }
            r.open = open;
            r.face = isFace;
            r.last = sort == W_FINAL;
            r.bare = sort == W_BARE;
            r.name = code[at];
            r.tok = at;
            return take() && readParents(r) && need(S_BEGIN) ? r : null;
        }

        private boolean readParents(Row r) {
            if (now() == W_IS) {
                if (!take() || now() != CLASS_NAME) {
                    return miss();
                }
                r.told = true;
                r.parent = code[at];
                if (!take()) {
                    return false;
                }
            }
            if (!readList(r, W_AS, AS, FACES)) {
                return false;
            }
            if (now() == W_IN) {
                if (!take() || now() != CLASS_NAME) {
                    return miss();
                }
                r.within = code[at];
                if (!take()) {
                    return false;
                }
            }
            return readList(r, W_WITH, WITH, LISTED) && readList(r, W_ONLY, ONLY, LISTED);
        }

        private boolean readList(Row r, int word, int which, int most) {
            if (now() != word) {
                return true;
            }
            boolean more = true;
            for (int i = 0; i < TOKENS && more; i++) {
                if (!take() || now() != CLASS_NAME) {
                    return miss();
                }
                if (r.counts[which] >= most) {
                    return stop(3);
                }
                r.list(which, code[at]);
                if (!take()) {
                    return false;
                }
                more = now() == S_COMMA;
            }
            return true;
        }

        /** A MEMBER up to what behindHead tells then: its BLOCK, its E, or nothing more. */
        private boolean readMember(Row r) {
            int sort = now();
            if (sort != CLASS_NAME && (sort < W_OPEN || sort > W_INT)) {
                return miss();
            }
            if (r.itemCount >= ITEMS) {
                return stop(3);
            }
            Member m = build.newMember();
            r.addItem(m);
            behindHead = S_BEGIN;
            if (sort == W_START) {
                m.kind = START;
                m.tok = at;
                return take();
            }
            r.add(m);
            if (sort >= W_OPEN && sort <= W_OWN) {
                m.access = sort == W_OPEN ? OPEN : sort == W_KIN ? KIN : OWN;
                if (!take()) {
                    return false;
                }
            }
            if (now() == W_NEW) {
                m.kind = MAKER;
                m.tok = at;
                return take() && readParams(m);
            }
            m.fixed = now() == W_STATIC;
            if (m.fixed && !take()) {
                return false;
            }
            m.last = now() == W_FINAL;
            m.bare = now() == W_BARE;
            return (!m.last && !m.bare || take()) && readTyped(m);
        }

        private boolean readTyped(Member m) {
            boolean isVoid = now() == W_VOID;
            if (!isVoid && now() != W_INT && now() != CLASS_NAME) {
                return miss();
            }
            m.type = isVoid ? VOID : now() == W_INT ? INT : code[at];
            if (!take()) {
                return false;
            }
            if (now() != NAME) {
                return miss();
            }
            m.tok = at;
            m.name = code[at];
            if (!take()) {
                return false;
            }
            if (now() == S_LEFT) {
                m.kind = METHOD;
                if (!readParams(m) || now() == S_BEGIN) {
                    return fault == 0;
                }
            } else if (isVoid) {
                return miss();
            } else if (now() == S_PUT) {
                behindHead = S_PUT;
                return take();
            }
            behindHead = END;
            return need(S_STOP);
        }

        private boolean readParams(Member m) {
            if (!need(S_LEFT)) {
                return false;
            }
            boolean more = now() != S_RIGHT;
            for (int i = 0; i <= PARAMS && more; i++) {
                if (now() != W_INT && now() != CLASS_NAME) {
                    return miss();
                }
                if (m.count >= PARAMS) {
                    return stop(3);
                }
                m.param[m.count] = now() == W_INT ? INT : code[at];
                m.count++;
                if (!take() || !need(NAME)) {
                    return false;
                }
                more = now() == S_COMMA;
                if (more && !take()) {
                    return false;
                }
            }
            return need(S_RIGHT);
        }

        private boolean readBody(Member m) {
            m.from = at;
            m.block = behindHead == S_BEGIN;
            m.body = m.block ? block(0) : expr(0);
            m.to = at;
            return fault == 0 && (m.block || need(S_STOP));
        }

        /** A BLOCK that stands within so many S's and E's. */
        private Node block(int depth) {
            if (now() != S_BEGIN) {
                miss();
                return null;
            }
            if (depth >= NESTED) {
                stop(3);
                return null;
            }
            Node n = node(N_BLOCK, at);
            take();
            Node last = null;
            for (int i = 0; i <= TOKENS && fault == 0 && now() != S_END; i++) {
                Node s = statement(depth + 1);
                if (last == null) {
                    n.a = s;
                } else {
                    last.next = s;
                }
                last = s;
            }
            return fault == 0 && take() ? n : null;
        }

        /** An S that stands within so many S's and E's; null with a fault. */
        private Node statement(int depth) {
            int sort = now();
            boolean isSimple = beginsE(sort);
            if (!isSimple && sort != S_BEGIN && sort != W_LET && sort != W_IF && sort != W_WHILE && sort != W_RETURN
                && sort != W_THROW && sort != W_TRY && sort != W_OUT) {
                miss();
                return null;
            }
            if (depth >= NESTED) {
                stop(3);
                return null;
            }
            if (sort == S_BEGIN) {
                return block(depth);
            }
            if (sort == W_SUPER && behind() == S_LEFT) {
                Node n = node(N_SUPER_MAKER, at);
                return take() && args(n, depth + 1) && need(S_STOP) ? n : null;
            }
            if (isSimple) {
                return simple(depth + 1);
            }
            return worded(sort, depth + 1);
        }

        private Node simple(int depth) {
            Node n = node(N_DO, at);
            n.a = expr(depth);
            if (n.a != null && now() == S_PUT && take()) {
                n.kind = N_PUT;
                n.b = expr(depth);
            }
            return fault == 0 && need(S_STOP) ? n : null;
        }

        /** An S that begins with a word; depth counts this S too. */
        private Node worded(int sort, int depth) {
            Node n = node(N_OUT, at);
            if (!take()) {
                return null;
            }
            if (sort == W_IF || sort == W_WHILE) {
                return tested(n, sort, depth);
            }
            if (sort == W_TRY) {
                return tried(n, depth);
            }
            if (sort == W_LET) {
                n.kind = N_LET;
                if (now() != W_INT && now() != CLASS_NAME) {
                    miss();
                    return null;
                }
                n.type = now() == W_INT ? INT : code[at];
                if (!take() || !need(NAME) || !need(S_PUT)) {
                    return null;
                }
            }
            if (sort == W_RETURN) {
                n.kind = N_RETURN;
            } else if (sort == W_THROW) {
                n.kind = N_THROW;
            }
            if (sort != W_RETURN || now() != S_STOP) {
                n.a = expr(depth);
            }
            return fault == 0 && need(S_STOP) ? n : null;
        }

        private Node tested(Node n, int sort, int depth) {
            n.kind = sort == W_IF ? N_IF : N_WHILE;
            if (!need(S_LEFT)) {
                return null;
            }
            n.a = expr(depth);
            if (fault != 0 || !need(S_RIGHT)) {
                return null;
            }
            n.b = statement(depth);
            if (fault == 0 && sort == W_IF && now() == W_ELSE && take()) {
                n.c = statement(depth);
            }
            return fault == 0 ? n : null;
        }

        private Node tried(Node n, int depth) {
            n.kind = N_TRY;
            n.a = block(depth);
            if (fault != 0 || !need(W_CATCH) || !need(S_LEFT)) {
                return null;
            }
            n.tok = at;
            n.owner = code[at];
            if (!need(CLASS_NAME) || !need(NAME) || !need(S_RIGHT)) {
                return null;
            }
            n.b = block(depth);
            return fault == 0 ? n : null;
        }

        private static boolean beginsE(int sort) {
            return sort == NUMBER || sort == NAME || sort == CLASS_NAME || sort == W_NULL || sort == W_THIS
                || sort == W_SUPER || sort == W_NEW || sort == S_LEFT;
        }

        /** An E that stands within so many S's and E's; null with a fault. */
        private Node expr(int depth) {
            if (!beginsE(now())) {
                miss();
                return null;
            }
            if (depth >= NESTED) {
                stop(3);
                return null;
            }
            Node left = chain(depth + 1, true);
            if (left == null || now() != S_LESS && now() != S_SAME) {
                return left;
            }
            Node n = node(N_COMPARE, left.first);
            n.op = now();
            n.a = left;
            n.b = take() ? chain(depth + 1, true) : null;
            return n.b == null ? null : n;
        }

        /** A SUM or a PRODUCT: its parts hang behind one another, so that long ones are not deep. */
        private Node chain(int depth, boolean sum) {
            Node part = sum ? chain(depth, false) : unit(depth);
            Node whole = part;
            for (int i = 0; i < TOKENS && part != null && isChained(now(), sum); i++) {
                if (whole == part) {
                    whole = node(N_CHAIN, part.first);
                    whole.a = part;
                }
                int op = now();
                Node more = !take() ? null : sum ? chain(depth, false) : unit(depth);
                if (more != null) {
                    more.op = op;
                }
                part.next = more;
                part = more;
            }
            return part == null ? null : whole;
        }

        private static boolean isChained(int sort, boolean sum) {
            return sum ? sort == S_PLUS || sort == S_MINUS : sort == S_TIMES;
        }

        private Node unit(int depth) {
            Node base = front(depth);
            Node whole = base;
            Node last = null;
            for (int i = 0; i < TOKENS && fault == 0 && (now() == S_DOT || now() == W_ASK); i++) {
                Node more = behindUnit(depth);
                if (last == null) {
                    whole = node(N_UNIT, base == null ? at : base.first);
                    whole.a = base;
                    whole.b = more;
                } else {
                    last.next = more;
                }
                last = more;
            }
            return fault == 0 ? whole : null;
        }

        private Node behindUnit(int depth) {
            boolean ask = now() == W_ASK;
            if (!take()) {
                return null;
            }
            Node n = node(ask ? N_ASK : N_DOT, at);
            n.owner = code[at];
            if (!need(ask ? CLASS_NAME : NAME)) {
                return null;
            }
            if (!ask && now() == S_LEFT) {
                n.kind = N_DOT_CALL;
                return args(n, depth) ? n : null;
            }
            return n;
        }

        private Node front(int depth) {
            int sort = now();
            if (!beginsE(sort)) {
                miss();
                return null;
            }
            Node n = node(N_NUMBER, at);
            n.owner = code[at];
            if (!take()) {
                return null;
            }
            switch (sort) {
                case NUMBER:
                    return n;
                case W_NULL:
                    n.kind = N_NULL;
                    return n;
                case W_THIS:
                    n.kind = N_THIS;
                    return n;
                case NAME:
                    n.kind = now() == S_LEFT ? N_CALL : N_NAME;
                    return n.kind == N_NAME || args(n, depth) ? n : null;
                case CLASS_NAME:
                    return ofClass(n, depth);
                case W_SUPER:
                    n.kind = N_SUPER;
                    return superCall(n, depth) ? n : null;
                case W_NEW:
                    n.kind = N_NEW;
                    n.tok = at;
                    n.owner = code[at];
                    return need(CLASS_NAME) && args(n, depth) ? n : null;
                default:
                    return round(n, depth);
            }
        }

        private Node ofClass(Node n, int depth) {
            n.kind = N_OF_CLASS;
            if (!need(S_DOT)) {
                return null;
            }
            if (now() == W_SUPER) {
                n.kind = N_SUPER_OF_FACE;
                return take() && superCall(n, depth) ? n : null;
            }
            n.tok = at;
            if (!need(NAME)) {
                return null;
            }
            if (now() == S_LEFT) {
                n.kind = N_CALL_OF_CLASS;
                return args(n, depth) ? n : null;
            }
            return n;
        }

        private boolean superCall(Node n, int depth) {
            if (!need(S_DOT)) {
                return false;
            }
            n.tok = at;
            return need(NAME) && args(n, depth);
        }

        /** What stands behind a ( : a CAST, or an E and its ). */
        private Node round(Node n, int depth) {
            if (now() == CLASS_NAME && behind() == S_RIGHT) {
                n.kind = N_CAST;
                n.tok = at;
                n.owner = code[at];
                if (!take() || !take()) {
                    return null;
                }
                if (!beginsE(now())) {
                    miss();
                    return null;
                }
                if (depth >= NESTED) {
                    stop(3);
                    return null;
                }
                n.a = unit(depth + 1);
                return n.a == null ? null : n;
            }
            n.kind = N_ROUND;
            n.a = expr(depth);
            return n.a != null && need(S_RIGHT) ? n : null;
        }

        /** ARGS with their ( and ), as a's chain; depth: the S's and E's that they stand within. */
        private boolean args(Node n, int depth) {
            if (!need(S_LEFT)) {
                return false;
            }
            boolean more = now() != S_RIGHT;
            Node last = null;
            for (int i = 0; i < TOKENS && more; i++) {
                Node e = expr(depth);
                if (e == null) {
                    return false;
                }
                if (last == null) {
                    n.a = e;
                } else {
                    last.next = e;
                }
                last = e;
                more = now() == S_COMMA;
                if (more && !take()) {
                    return false;
                }
            }
            return need(S_RIGHT);
        }
    }

    /** The classes that stand together, by numbers, and the rules of part 2 among them. */
    private static final class World {
        final Build builtIn;
        final Row[] row = new Row[WORLD_MOST];
        int count;
        final int[] parent = new int[WORLD_MOST];
        final int[] chain = new int[WORLD_MOST];
        final int[] face = new int[WORLD_MOST * FACES];
        final int[] bar = new int[WORLD_MOST * (FACES + 1)];
        final int[] host = new int[WORLD_MOST];
        final int[] nest = new int[WORLD_MOST];
        final long[] up = new long[WORLD_MOST];
        final int[] all = new int[WORLD_MOST * WORLD_MOST];
        final int[] allCount = new int[WORLD_MOST];
        final int[] path = new int[WORLD_MOST + 2];
        final int[] step = new int[WORLD_MOST + 2];
        final int[] seen = new int[WORLD_MOST];
        int seenCount;
        final Member[] best = new Member[WORLD_MOST];
        Member special;
        int at;
        int why;

        World() {
            builtIn = new Build(2, 3, 0, 0, 0, 0);
            Row any = builtIn.newRow();
            Row ill = builtIn.newRow();
            any.name = ANY;
            any.open = true;
            any.parent = NO;
            any.add(openMaker(builtIn.newMember()));
            ill.name = ILL;
            ill.open = true;
            ill.told = true;
            ill.slots = 1;
            Member code = builtIn.newMember();
            code.access = OPEN;
            code.name = CODE;
            code.type = INT;
            ill.add(code);
            ill.add(openMaker(builtIn.newMember()));
        }

        private static Member openMaker(Member m) {
            m.kind = MAKER;
            m.access = OPEN;
            return m;
        }

        void clear() {
            count = 2;
            row[0] = builtIn.rows[0];
            row[1] = builtIn.rows[1];
        }

        /** The classes of a build come in; of one name the first alone. */
        void enter(Build b) {
            for (int i = 0; b != null && i < b.rowCount; i++) {
                boolean known = count >= WORLD_MOST;
                for (int k = 2; k < count && !known; k++) {
                    known = row[k].name == b.rows[i].name;
                }
                if (!known) {
                    row[count] = b.rows[i];
                    count++;
                }
            }
        }

        /** The number of a class, below 0 if it is not there; a text's own name is found ahead of a built in one. */
        int find(long name) {
            for (int i = 2; i < count; i++) {
                if (row[i].name == name) {
                    return i;
                }
            }
            return name == ANY ? 0 : name == ILL ? 1 : NONE;
        }

        /** All have come in: who is whose PARENT, FACE, NEST and HEIR. */
        void settle() {
            for (int x = 0; x < count; x++) {
                Row r = row[x];
                parent[x] = x == 0 || r.face ? NONE : find(r.parent);
                host[x] = r.within == NO ? NONE : find(r.within);
                boolean nested = host[x] >= 0 && r.within >>> 59 == r.name >>> 59 && row[host[x]].has(WITH, r.name);
                nest[x] = nested ? host[x] : x;
                bar[x * (FACES + 1)] = r.face ? 0 : bars(r, parent[x], true);
                for (int i = 0; i < FACES; i++) {
                    face[x * FACES + i] = i < r.counts[AS] ? find(r.listedAt(AS, i)) : NONE;
                    bar[x * (FACES + 1) + 1 + i] = i < r.counts[AS] ? bars(r, face[x * FACES + i], false) : 0;
                }
                up[x] = 0;
                allCount[x] = NONE;
            }
            close();
        }

        /** Why r can't have this PARENT or FACE, if that is LOADED. */
        private int bars(Row r, int above, boolean isParent) {
            if (above < 0) {
                return NOT_THERE;
            }
            Row p = row[above];
            if (p.face == isParent) {
                return OTHER_SORT;
            }
            if (!p.open && p.name >>> 59 != r.name >>> 59) {
                return NOT_LET;
            }
            return isParent && p.last || p.counts[ONLY] > 0 && !p.has(ONLY, r.name) ? OTHER_SORT : 0;
        }

        /** HEIRS, and how many PARENTS each has. */
        private void close() {
            boolean more = true;
            for (int turn = 0; turn <= WORLD_MOST && more; turn++) {
                more = false;
                for (int x = 0; x < count; x++) {
                    long old = up[x];
                    up[x] |= parent[x] < 0 ? 0 : 1L << parent[x] | up[parent[x]];
                    for (int i = x * FACES; i < x * FACES + FACES; i++) {
                        up[x] |= face[i] < 0 ? 0 : 1L << face[i] | up[face[i]];
                    }
                    more |= up[x] != old;
                }
            }
            for (int x = 0; x < count; x++) {
                chain[x] = 0;
                long come = 0;
                int p = parent[x];
                for (int i = 0; i < count && p >= 0 && (come >>> p & 1) == 0; i++) {
                    come |= 1L << p;
                    chain[x]++;
                    p = parent[p];
                }
            }
        }

        boolean heir(int x, int y) {
            return (up[x] >>> y & 1) != 0;
        }

        boolean samePackage(int x, int y) {
            return row[x].name >>> 59 == row[y].name >>> 59;
        }

        boolean isLet(int c, int d) {
            return row[c].open || row[c].name >>> 59 == row[d].name >>> 59;
        }

        /** Whether a member of k, named by c, is LET to d; NESTS as the texts tell them. */
        boolean isLet(Member m, int k, int c, int d) {
            if (m.access == OPEN) {
                return true;
            }
            if (m.access == OWN) {
                return d == k || nest[d] == nest[k];
            }
            if (row[d].name >>> 59 == row[k].name >>> 59) {
                return true;
            }
            return m.access == KIN && (d == k || (up[d] >>> k & 1) != 0)
                && (m.fixed || c == d || (up[c] >>> d & 1) != 0 || (up[d] >>> c & 1) != 0);
        }

        boolean fits(long from, long wanted) {
            if (from == VOID || wanted == VOID) {
                return false;
            }
            if (from == wanted) {
                return true;
            }
            if (from == INT || wanted == INT) {
                return false;
            }
            if (from == NULL) {
                return true;
            }
            int x = from == ANY ? 0 : from == ILL ? 1 : NONE;
            int y = wanted == ANY ? 0 : wanted == ILL ? 1 : NONE;
            for (int i = 2; i < count; i++) {
                x = row[i].name == from ? i : x;
                y = row[i].name == wanted ? i : y;
            }
            return x >= 0 && y >= 0 && ((up[x] >>> y & 1) != 0 || y == 0 && row[x].face);
        }

        /** ALL FACES of x stand in all from x * WORLD_MOST on: how many. */
        int faces(int x) {
            if (allCount[x] >= 0) {
                return allCount[x];
            }
            int n = 0;
            long told = 0;
            long opened = 1L << x;
            int depth = 1;
            path[0] = x;
            step[0] = 0;
            for (int turn = 0; turn < LONG_LOOP && depth > 0; turn++) {
                int top = path[depth - 1];
                int i = step[depth - 1];
                step[depth - 1]++;
                int next = i < FACES ? face[top * FACES + i] : i == FACES ? parent[top] : NONE;
                if (i > FACES) {
                    depth--;
                } else if (next >= 0) {
                    if (i < FACES && (told >>> next & 1) == 0) {
                        told |= 1L << next;
                        all[x * WORLD_MOST + n] = next;
                        n++;
                    }
                    if ((opened >>> next & 1) == 0) {
                        opened |= 1L << next;
                        path[depth] = next;
                        step[depth] = 0;
                        depth++;
                    }
                }
            }
            allCount[x] = n;
            return n;
        }

        /** THE FIELD of a name, and of a type if that is not NO, of x; at: its class; seen: where it was looked for. */
        Member fieldIn(int x, long name, long type) {
            long looked = 1L << x;
            int depth = 1;
            path[0] = x;
            step[0] = 0;
            seenCount = 1;
            seen[0] = x;
            at = x;
            Member m = row[x].field(name, type);
            for (int turn = 0; turn < LONG_LOOP && depth > 0 && m == null; turn++) {
                int top = path[depth - 1];
                int i = step[depth - 1];
                step[depth - 1]++;
                int next = i < FACES ? face[top * FACES + i] : i == FACES ? parent[top] : NONE;
                if (i > FACES) {
                    depth--;
                } else if (next >= 0 && (looked >>> next & 1) == 0) {
                    looked |= 1L << next;
                    path[depth] = next;
                    step[depth] = 0;
                    depth++;
                    seen[seenCount] = next;
                    seenCount++;
                    at = next;
                    m = row[next].field(name, type);
                }
            }
            return m;
        }

        /** Of the MOST SPECIAL of x how many are not bare; special and at are the last of them. */
        int mostSpecial(int x, Member sig) {
            int n = faces(x);
            int first = x * WORLD_MOST;
            long there = 0;
            for (int f = 0; f < count; f++) {
                best[f] = null;
            }
            for (int i = row[x].face ? -1 : 0; i < n; i++) {
                int f = i < 0 ? x : all[first + i];
                Member m = row[f].method(sig);
                if (m != null && !m.fixed && m.access != OWN) {
                    best[f] = m;
                    there |= 1L << f;
                }
            }
            int good = 0;
            for (int f = 0; f < count; f++) {
                boolean outdone = best[f] == null || best[f].bare;
                for (int g = 0; g < count && !outdone; g++) {
                    outdone = g != f && (there >>> g & 1) != 0 && (up[g] >>> f & 1) != 0;
                }
                if (!outdone) {
                    good++;
                    special = best[f];
                    at = f;
                }
            }
            return good;
        }

        /** Whether x's method like m OVERRIDES m of k, a PARENT of x's: a way of steps, each LET to override the last. */
        boolean overrides(int x, int k, Member m) {
            int n = 0;
            int p = x;
            for (int i = 0; i < chain[x] && p != k; i++) {
                path[n] = p;
                n++;
                p = parent[p];
            }
            if (p != k || n == 0) {
                return false;
            }
            boolean free = m.access >= KIN;
            int packages = 1 << (int) (row[k].name >>> 59);
            boolean over = false;
            for (int i = n - 1; i >= 0; i--) {
                Member own = row[path[i]].method(m);
                int itsPackage = 1 << (int) (row[path[i]].name >>> 59);
                over = own != null && own.ofObjects() && (free || (packages & itsPackage) != 0);
                if (over) {
                    free |= own.access >= KIN;
                    packages |= itsPackage;
                }
            }
            return over;
        }

        /** The method SELECTED for m of k and a class r; at: its class. Null: why tells the failure. */
        Member selected(Member m, int k, int r) {
            at = k;
            if (m.access == OWN) {
                return m;
            }
            int x = r;
            for (int i = 0; i <= chain[r] && x >= 0; i++) {
                Member n = row[x].method(m);
                if (n != null && n.ofObjects() && (x == k || row[k].face || overrides(x, k, m))) {
                    at = x;
                    why = IS_BARE;
                    return n.bare ? null : n;
                }
                x = parent[x];
            }
            int good = mostSpecial(r, m);
            why = good > 1 ? OTHER_SORT : IS_BARE;
            return good == 1 ? special : null;
        }
    }

    /** Judges heads and members of a text, and makes its BRIDGES. */
    private static final class Judge {
        World world;
        Build build;
        int fault;
        int faultToken;

        private boolean fail(int number, int token) {
            if (fault == 0) {
                fault = number;
                faultToken = token;
            }
            return false;
        }

        boolean judge(World w, Build b) {
            world = w;
            build = b;
            fault = 0;
            for (int i = 0; i < build.rowCount && fault == 0; i++) {
                head(build.rows[i], i);
            }
            for (int i = 0; i < build.rowCount && fault == 0; i++) {
                int x = world.find(build.rows[i].name);
                if (x >= 0 && world.heir(x, x)) {
                    fail(5, build.rows[i].tok);
                }
            }
            for (int i = 0; i < build.rowCount && fault == 0; i++) {
                items(build.rows[i], world.find(build.rows[i].name));
            }
            for (int i = 0; i < build.rowCount && fault == 0; i++) {
                above(build.rows[i], world.find(build.rows[i].name));
            }
            for (int i = 0; i < build.rowCount && fault == 0; i++) {
                impliedMaker(build.rows[i]);
                bridges(build.rows[i], world.find(build.rows[i].name));
            }
            for (int i = 0; i < build.rowCount && fault == 0; i++) {
                whole(build.rows[i], world.find(build.rows[i].name));
            }
            return fault == 0;
        }

        private boolean head(Row r, int number) {
            for (int i = 0; i < number; i++) {
                if (build.rows[i].name == r.name) {
                    return fail(4, r.tok);
                }
            }
            if (r.name >>> 59 == BUILT_IN_PACKAGE) {
                return fail(4, r.tok);
            }
            int t = r.tok + 1;
            if (r.told) {
                int p = world.find(r.parent);
                if (r.face || p < 0 || world.row[p].face || world.row[p].last || barred(p, r)) {
                    return fail(5, t + 1);
                }
                t += 2;
            }
            for (int i = 0; i < r.counts[AS]; i++) {
                int f = world.find(r.listedAt(AS, i));
                boolean again = false;
                for (int k = 0; k < i; k++) {
                    again |= r.listedAt(AS, k) == r.listedAt(AS, i);
                }
                if (again || f < 0 || !world.row[f].face || barred(f, r)) {
                    return fail(5, t + 1);
                }
                t += 2;
            }
            return within(r, t);
        }

        /** Not LET to r, or its 'only' lacks r. */
        private boolean barred(int above, Row r) {
            Row p = world.row[above];
            return !p.open && p.name >>> 59 != r.name >>> 59 || p.counts[ONLY] > 0 && !p.has(ONLY, r.name);
        }

        private boolean within(Row r, int token) {
            int t = token;
            if (r.within != NO) {
                Row h = build.named(r.within);
                if (h == null || h.name >>> 59 != r.name >>> 59 || !h.has(WITH, r.name)) {
                    return fail(5, t + 1);
                }
                t += 2;
            }
            for (int i = 0; i < r.counts[WITH]; i++) {
                Row h = build.named(r.listedAt(WITH, i));
                if (h == null || h.within != r.name) {
                    return fail(5, t + 1);
                }
                t += 2;
            }
            for (int i = 0; i < r.counts[ONLY]; i++) {
                if (build.named(r.listedAt(ONLY, i)) == null) {
                    return fail(5, t + 1);
                }
                t += 2;
            }
            return true;
        }

        private void items(Row r, int x) {
            for (int i = 0; i < r.itemCount && fault == 0; i++) {
                Member m = r.items[i];
                if (r.face ? oddInFace(m) : oddInClass(r, m)) {
                    fail(8, m.tok);
                    return;
                }
                if (r.face) {
                    settleInFace(m);
                }
                if (m.kind != START) {
                    types(m, x);
                    twice(r, m);
                }
            }
        }

        private static boolean oddInClass(Row r, Member m) {
            if (m.kind == FIELD) {
                return m.bare;
            }
            return m.kind == METHOD
                && (m.bare == m.block || m.bare && (m.access == OWN || m.fixed || !r.bare));
        }

        private static boolean oddInFace(Member m) {
            if (m.kind == FIELD) {
                return m.bare || m.access == OWN || m.access == KIN || m.body == null;
            }
            return m.kind != METHOD || m.access == KIN || m.last || m.bare && m.block
                || !m.block && (m.fixed || m.access == OWN);
        }

        /** What counts in a face without being told. */
        private static void settleInFace(Member m) {
            if (m.kind == FIELD) {
                m.access = OPEN;
                m.fixed = true;
                m.last = true;
            } else {
                m.access = m.access == PLAIN ? OPEN : m.access;
                m.bare = !m.block;
            }
        }

        private void types(Member m, int x) {
            if (m.kind != MAKER && !isType(m.type, x)) {
                fail(7, m.tok - 1);
            }
            for (int i = 0; i < m.count; i++) {
                if (!isType(m.param[i], x)) {
                    fail(7, m.tok + 2 + 3 * i);
                }
            }
        }

        private boolean isType(long type, int x) {
            if (type == INT || type == VOID) {
                return true;
            }
            int c = world.find(type);
            return c >= 0 && world.isLet(c, x);
        }

        private void twice(Row r, Member m) {
            for (int i = 0; i < r.memberCount && r.members[i] != m; i++) {
                Member e = r.members[i];
                if (e.kind == m.kind && e.name == m.name && (m.kind == FIELD || e.sameParams(m))) {
                    fail(6, m.tok);
                }
            }
        }

        /** The method of k that stands ABOVE n of x, or null. */
        private Member aboveIn(int k, int x, Member n) {
            Member m = world.row[k].plain(n);
            if (m == null || m.access == OWN || m.access == PLAIN && !world.samePackage(k, x)
                || m.fixed && world.row[k].face) {
                return null;
            }
            return m;
        }

        private void above(Row r, int x) {
            for (int i = 0; i < r.memberCount && fault == 0; i++) {
                Member n = r.members[i];
                if (n.kind == METHOD) {
                    int p = world.parent[x];
                    for (int k = 0; k < world.chain[x] && p >= 0; k++) {
                        against(n, aboveIn(p, x, n));
                        p = world.parent[p];
                    }
                    int faces = world.faces(x);
                    for (int k = 0; k < faces; k++) {
                        against(n, aboveIn(world.all[x * WORLD_MOST + k], x, n));
                    }
                }
            }
        }

        private void against(Member n, Member m) {
            if (m == null) {
                return;
            }
            boolean odd = m.fixed != n.fixed || !m.fixed
                && (m.last || m.access > n.access || m.type != n.type && !world.fits(n.type, m.type));
            if (odd) {
                fail(9, n.tok);
            }
        }

        private void impliedMaker(Row r) {
            if (!r.face && !r.hasMaker()) {
                Member m = build.newMember();
                m.kind = MAKER;
                m.access = r.open ? OPEN : PLAIN;
                m.tok = r.tok;
                r.add(m);
            }
        }

        private void bridges(Row r, int x) {
            int told = r.memberCount;
            for (int i = 0; i < told && fault == 0; i++) {
                Member n = r.members[i];
                if (n.kind == METHOD && n.ofObjects() && !n.bare) {
                    int p = world.parent[x];
                    for (int k = 0; k < world.chain[x] && p >= 0; k++) {
                        bridge(r, n, aboveIn(p, x, n));
                        p = world.parent[p];
                    }
                    int faces = world.faces(x);
                    for (int k = 0; k < faces; k++) {
                        bridge(r, n, aboveIn(world.all[x * WORLD_MOST + k], x, n));
                    }
                }
            }
        }

        private void bridge(Row r, Member n, Member m) {
            if (m == null || m.fixed || m.type == n.type || r.method(m) != null || fault != 0) {
                return;
            }
            if (r.bridges() >= BRIDGES) {
                fail(3, r.tok);
                return;
            }
            addBridge(build, r, n, m.type);
        }

        /** A BRIDGE of another RESULT to n, a method of r. */
        static Member addBridge(Build b, Row r, Member n, long type) {
            Member m = b.newMember();
            m.kind = METHOD;
            m.bridge = true;
            m.fixed = n.fixed;
            m.access = n.access;
            m.name = n.name;
            m.type = type;
            m.count = n.count;
            for (int i = 0; i < n.count; i++) {
                m.param[i] = n.param[i];
            }
            r.add(m);
            return m;
        }

        /** FAULT 10: a class that is not bare has all that it owes. */
        private void whole(Row r, int x) {
            if (r.bare || r.face) {
                return;
            }
            int p = world.parent[x];
            for (int k = 0; k < world.chain[x] && p >= 0; k++) {
                owed(r, x, p);
                p = world.parent[p];
            }
            int faces = world.faces(x);
            for (int k = 0; k < faces; k++) {
                owed(r, x, world.all[x * WORLD_MOST + k]);
            }
        }

        private void owed(Row r, int x, int k) {
            Row those = world.row[k];
            for (int i = 0; i < those.memberCount && fault == 0; i++) {
                Member m = those.members[i];
                if (m.kind == METHOD && m.ofObjects() && !m.bridge && world.selected(m, k, x) == null) {
                    fail(10, r.tok);
                }
            }
        }
    }

    /** Finds the CONSTANTS of a text and judges its bodies; what a name means is put into its node. */
    private static final class Bodies {
        World world;
        Build build;
        Reader reader;
        int fault;
        int faultToken;
        Row row;
        int self;
        Member member;
        boolean fixed;
        final long[] localName = new long[TOKENS];
        final long[] localType = new long[TOKENS];
        int locals;
        int localsMost;
        final Member[] candidate = new Member[WORLD_MOST * ITEMS];
        int candidates;
        final int[] places = new int[WORLD_MOST * 2 + 2];
        int folded;

        private boolean fail(int number, int token) {
            if (fault == 0) {
                fault = number;
                faultToken = token;
            }
            return false;
        }

        boolean judge(World w, Build b, Reader r) {
            world = w;
            build = b;
            reader = r;
            fault = 0;
            for (int i = 0; i < build.rowCount; i++) {
                row = build.rows[i];
                self = world.find(row.name);
                constants();
            }
            for (int i = 0; i < build.rowCount && fault == 0; i++) {
                row = build.rows[i];
                self = world.find(row.name);
                for (int k = 0; k < row.itemCount && fault == 0; k++) {
                    body(row.items[k]);
                }
                for (int k = 0; k < row.memberCount && fault == 0; k++) {
                    Member m = row.members[k];
                    if (m.kind == MAKER && !m.block && meant(world.parent[self], NO, null, true) == null) {
                        fail(18, row.tok);
                    }
                }
            }
            return fault == 0;
        }

        private void constants() {
            for (int i = 0; i < row.memberCount; i++) {
                Member m = row.members[i];
                if (m.kind == FIELD && m.fixed && m.last && m.type == INT && m.body != null && fold(m.body)) {
                    m.constant = true;
                    m.worth = folded;
                }
            }
        }

        /** Whether an E has only what CONSTANTS may have; folded is its value then. */
        private boolean fold(Node n) {
            if (n == null) {
                return false;
            }
            switch (n.kind) {
                case N_NUMBER:
                    folded = (int) n.owner;
                    return true;
                case N_ROUND:
                    return fold(n.a);
                case N_NAME:
                    return foldField(self, n.owner);
                case N_OF_CLASS:
                    int c = world.find(reader.code[n.first]);
                    return c >= 0 && world.isLet(c, self) && foldField(c, reader.code[n.tok]);
                case N_COMPARE:
                    return foldCompare(n);
                case N_CHAIN:
                    return foldChain(n);
                default:
                    return false;
            }
        }

        private boolean foldField(int c, long name) {
            Member m = world.fieldIn(c, name, NO);
            if (m == null || !m.constant || !world.isLet(m, world.at, c, self)) {
                return false;
            }
            folded = m.worth;
            return true;
        }

        private boolean foldCompare(Node n) {
            if (!fold(n.a)) {
                return false;
            }
            int left = folded;
            if (!fold(n.b)) {
                return false;
            }
            folded = (n.op == S_LESS ? left < folded : left == folded) ? 1 : 0;
            return true;
        }

        private boolean foldChain(Node n) {
            if (!fold(n.a)) {
                return false;
            }
            int sum = folded;
            for (Node part = n.a.next; part != null; part = part.next) {
                if (!fold(part)) {
                    return false;
                }
                sum = part.op == S_PLUS ? sum + folded : part.op == S_MINUS ? sum - folded : sum * folded;
            }
            folded = sum;
            return true;
        }

        private void body(Member m) {
            member = m;
            fixed = m.fixed || m.kind == START;
            locals = 0;
            localsMost = 0;
            if (m.kind == FIELD) {
                if (m.body != null && expr(m.body)) {
                    wanted(m.body, m.type);
                }
                return;
            }
            for (int i = 0; i < m.count; i++) {
                int t = m.tok + 3 + 3 * i;
                local(m.param[i], t < TOKENS ? reader.code[t] : NO, t);
            }
            if (fault == 0 && m.kind == MAKER && !superFirst(m) && meant(world.parent[self], NO, null, true) == null) {
                fail(18, m.tok);
            }
            if (fault == 0 && m.body != null && statement(m.body) && m.kind == METHOD && m.type != VOID && ends(m.body)) {
                fail(17, m.tok);
            }
            m.locals = localsMost + (fixed ? 0 : 1);
        }

        private static boolean superFirst(Member m) {
            return m.body != null && m.body.a != null && m.body.a.kind == N_SUPER_MAKER;
        }

        /** A local or param more: its slot. */
        private int local(long type, long name, int token) {
            if (localOf(name) >= 0) {
                fail(16, token);
            }
            if (locals < TOKENS) {
                localName[locals] = name;
                localType[locals] = type;
                locals++;
            }
            localsMost = Math.max(localsMost, locals);
            return locals - 1 + (fixed ? 0 : 1);
        }

        private int localOf(long name) {
            for (int i = 0; i < locals; i++) {
                if (localName[i] == name) {
                    return i;
                }
            }
            return NONE;
        }

        private boolean wanted(Node e, long type) {
            return world.fits(e.type, type) || fail(13, e.first);
        }

        /** A C that the text names: its number, or below 0 with FAULT 7. */
        private int named(long name, int token) {
            int c = world.find(name);
            if (c < 0 || !world.isLet(c, self)) {
                fail(7, token);
                return NONE;
            }
            return c;
        }

        /** Whether the end of an S can be come to. */
        private static boolean ends(Node s) {
            if (s == null) {
                return true;
            }
            switch (s.kind) {
                case N_RETURN:
                case N_THROW:
                    return false;
                case N_BLOCK:
                    for (Node part = s.a; part != null; part = part.next) {
                        if (!ends(part)) {
                            return false;
                        }
                    }
                    return true;
                case N_IF:
                    return s.c == null || ends(s.b) || ends(s.c);
                case N_TRY:
                    return ends(s.a) || ends(s.b);
                default:
                    return true;
            }
        }

        private boolean statement(Node s) {
            int known = locals;
            switch (s.kind) {
                case N_BLOCK:
                    for (Node part = s.a; part != null && fault == 0; part = part.next) {
                        statement(part);
                    }
                    locals = known;
                    return fault == 0;
                case N_LET:
                    return (s.type == INT || named(s.type, s.first + 1) >= 0) && expr(s.a) && let(s);
                case N_IF:
                case N_WHILE:
                    if (!expr(s.a) || !wanted(s.a, INT) || !statement(s.b)) {
                        return false;
                    }
                    locals = known;
                    boolean right = s.c == null || statement(s.c);
                    locals = known;
                    return right;
                case N_RETURN:
                    return expr(s.a) && returned(s);
                case N_THROW:
                    return expr(s.a) && wanted(s.a, ILL);
                case N_TRY:
                    return tried(s);
                case N_OUT:
                    return expr(s.a) && wanted(s.a, INT);
                case N_SUPER_MAKER:
                    return exprs(s.a) && superMaker(s);
                case N_PUT:
                    return expr(s.a) && expr(s.b) && put(s);
                default:
                    return expr(s.a) && (isCall(s.a) || fail(19, s.first));
            }
        }

        private boolean let(Node s) {
            if (s.a == null || !wanted(s.a, s.type)) {
                return false;
            }
            s.slot = local(s.type, reader.code[s.first + 2], s.first + 2);
            return fault == 0;
        }

        private boolean returned(Node s) {
            boolean gives = member.kind == METHOD && member.type != VOID;
            if (member.kind == START || gives != (s.a != null)) {
                return fail(17, s.first);
            }
            return s.a == null || wanted(s.a, member.type);
        }

        private boolean tried(Node s) {
            if (!statement(s.a)) {
                return false;
            }
            int c = named(s.owner, s.tok);
            if (c < 0) {
                return false;
            }
            if (!world.fits(s.owner, ILL)) {
                return fail(13, s.tok);
            }
            int known = locals;
            s.slot = local(s.owner, reader.code[s.tok + 1], s.tok + 1);
            boolean right = fault == 0 && statement(s.b);
            locals = known;
            return right;
        }

        private boolean superMaker(Node s) {
            boolean first = member.kind == MAKER && member.body != null && member.body.a == s;
            s.member = first ? meant(world.parent[self], NO, s.a, true) : null;
            s.owner = row.parent;
            return s.member != null || fail(18, s.first);
        }

        private static boolean isCall(Node e) {
            if (e.kind == N_UNIT) {
                Node last = e.b;
                for (Node s = e.b; s != null; s = s.next) {
                    last = s;
                }
                return last != null && last.kind == N_DOT_CALL;
            }
            return e.kind == N_CALL || e.kind == N_CALL_OF_CLASS || e.kind == N_SUPER_OF_FACE || e.kind == N_SUPER
                || e.kind == N_NEW;
        }

        /** What is put into: a NAME, C.NAME, or the last .NAME of a UNIT; else null. */
        private static Node target(Node e) {
            if (e.kind == N_NAME || e.kind == N_OF_CLASS) {
                return e;
            }
            Node last = e.kind == N_UNIT ? e.b : null;
            for (Node s = last; s != null; s = s.next) {
                last = s;
            }
            return last != null && last.kind == N_DOT ? last : null;
        }

        private boolean put(Node s) {
            if (s.a == null || s.b == null) {
                return false;
            }
            Node t = target(s.a);
            if (t == null) {
                return fail(15, s.first);
            }
            Member m = t.member;
            if (m != null && m.last) {
                boolean here = m.fixed ? member.kind == START : member.kind == MAKER;
                if (!here || row.field(m.name, NO) != m) {
                    return fail(15, s.first);
                }
            }
            return wanted(s.b, s.a.type);
        }

        private boolean exprs(Node first) {
            for (Node e = first; e != null; e = e.next) {
                if (!expr(e)) {
                    return false;
                }
            }
            return true;
        }

        /** Judges an E: its type stands in it then. */
        private boolean expr(Node n) {
            if (n == null) {
                return fault == 0;
            }
            switch (n.kind) {
                case N_NUMBER:
                    n.type = INT;
                    return true;
                case N_NULL:
                    n.type = NULL;
                    return true;
                case N_THIS:
                    n.type = row.name;
                    return !fixed || fail(14, n.first);
                case N_NAME:
                    return isLocal(n) || field(n, self, reader.code[n.tok]) && statics(n, fixed, false);
                case N_CALL:
                    return exprs(n.a) && calls(n, self, meant(self, reader.code[n.tok], n.a, false)) && statics(n, fixed, false);
                case N_OF_CLASS:
                    int k = named(reader.code[n.first], n.first);
                    return k >= 0 && field(n, k, reader.code[n.tok]) && statics(n, true, false);
                case N_CALL_OF_CLASS:
                    int c = named(reader.code[n.first], n.first);
                    return c >= 0 && exprs(n.a) && calls(n, c, meant(c, reader.code[n.tok], n.a, false))
                        && statics(n, true, false);
                case N_SUPER_OF_FACE:
                case N_SUPER:
                    return superCall(n);
                case N_NEW:
                    return made(n);
                case N_CAST:
                    n.type = n.owner;
                    return named(n.owner, n.tok) >= 0 && expr(n.a) && n.a != null && isObject(n.a.type, n.a.first);
                case N_ROUND:
                    boolean right = expr(n.a);
                    n.type = n.a == null ? NO : n.a.type;
                    return right;
                case N_UNIT:
                    return unit(n);
                case N_CHAIN:
                    return chain(n);
                default:
                    return compare(n);
            }
        }

        /** 14: what is not static where only what is static can be meant, or the other way round. */
        private boolean statics(Node n, boolean onlyStatic, boolean neverStatic) {
            Member m = n.member;
            if (m == null) {
                return false;
            }
            return (!onlyStatic || m.fixed) && (!neverStatic || !m.fixed) || fail(14, n.tok);
        }

        private boolean isObject(long type, int token) {
            return type != INT && type != VOID || fail(13, token);
        }

        private boolean isLocal(Node n) {
            int i = localOf(reader.code[n.tok]);
            if (i < 0) {
                return false;
            }
            n.slot = i + (fixed ? 0 : 1);
            n.type = localType[i];
            return true;
        }

        /** The FIELD of a NAME of c that n means: 11. */
        private boolean field(Node n, int c, long name) {
            Member m = world.fieldIn(c, name, NO);
            if (m == null || !world.isLet(m, world.at, c, self)) {
                return fail(11, n.tok);
            }
            n.member = m;
            n.type = m.type;
            n.owner = world.row[c].name;
            return true;
        }

        /** A call of the method m of x that is meant, if one is: 12. */
        private boolean calls(Node n, int x, Member m) {
            if (m == null) {
                return fail(12, n.tok);
            }
            n.member = m;
            n.type = m.type;
            n.owner = world.row[x].name;
            return true;
        }

        private boolean superCall(Node n) {
            boolean ofFace = n.kind == N_SUPER_OF_FACE;
            int x = ofFace ? named(reader.code[n.first], n.first) : world.parent[self];
            if (fault != 0 || !exprs(n.a)) {
                return false;
            }
            boolean odd = ofFace ? !row.has(AS, reader.code[n.first]) : row.face;
            Member m = odd ? null : meant(x, reader.code[n.tok], n.a, false);
            if (m == null || m.bare || !calls(n, x, m)) {
                return fail(12, n.tok);
            }
            if (fixed) {
                return fail(14, ofFace ? n.first + 2 : n.first);
            }
            return statics(n, false, true);
        }

        private boolean made(Node n) {
            int c = named(n.owner, n.tok);
            if (c < 0 || !exprs(n.a)) {
                return false;
            }
            n.type = n.owner;
            Row r = world.row[c];
            n.member = r.face || r.bare ? null : meant(c, NO, n.a, true);
            return n.member != null || fail(18, n.tok);
        }

        private boolean unit(Node n) {
            if (!expr(n.a)) {
                return false;
            }
            long type = n.a == null ? NO : n.a.type;
            for (Node s = n.b; s != null; s = s.next) {
                if (!behind(n, s, type)) {
                    return false;
                }
                type = s.type;
            }
            n.type = type;
            return true;
        }

        /** What stands behind an E of this type: .NAME, .NAME( ), ask C. */
        private boolean behind(Node n, Node s, long type) {
            if (s.kind == N_ASK) {
                s.type = INT;
                return named(s.owner, s.tok) >= 0 && isObject(type, n.first);
            }
            if (!exprs(s.a)) {
                return false;
            }
            if (type == INT || type == VOID || type == NULL) {
                return fail(13, n.first);
            }
            int x = world.find(type);
            long name = reader.code[s.tok];
            if (s.kind == N_DOT) {
                return (x < 0 ? fail(11, s.tok) : field(s, x, name)) && statics(s, false, true);
            }
            return calls(s, x, meant(x, name, s.a, false)) && statics(s, false, true);
        }

        private boolean chain(Node n) {
            n.type = INT;
            if (n.a == null || !expr(n.a)) {
                return false;
            }
            boolean first = true;
            for (Node part = n.a.next; part != null; part = part.next) {
                if (!expr(part)) {
                    return false;
                }
                if (first && !wanted(n.a, INT)) {
                    return false;
                }
                first = false;
                if (!wanted(part, INT)) {
                    return false;
                }
            }
            return true;
        }

        private boolean compare(Node n) {
            n.type = INT;
            if (!expr(n.a) || !expr(n.b) || n.a == null || n.b == null) {
                return false;
            }
            if (n.op == S_LESS) {
                return wanted(n.a, INT) && wanted(n.b, INT);
            }
            if (n.a.type == VOID) {
                return fail(13, n.a.first);
            }
            return n.b.type != VOID && (n.b.type == INT) == (n.a.type == INT) || fail(13, n.b.first);
        }

        /** The method of a NAME, or the maker, of x that is meant with these ARGS; null without one. */
        private Member meant(int x, long name, Node args, boolean makers) {
            if (x < 0) {
                return null;
            }
            int count = 0;
            for (Node e = args; e != null; e = e.next) {
                count++;
            }
            int n = whereLooked(x, makers);
            candidates = 0;
            for (int i = 0; i < n; i++) {
                Row those = world.row[places[i]];
                boolean noStatic = those.face && places[i] != x;
                for (int k = 0; k < those.memberCount; k++) {
                    Member m = those.members[k];
                    boolean called = makers ? m.kind == MAKER : m.kind == METHOD && m.name == name && !m.bridge;
                    if (called && m.count == count && !(m.fixed && noStatic) && world.isLet(m, places[i], x, self)) {
                        consider(m, args);
                    }
                }
            }
            for (int i = 0; i < candidates; i++) {
                boolean best = true;
                for (int k = 0; k < candidates && best; k++) {
                    for (int p = 0; p < count && best; p++) {
                        best = world.fits(candidate[i].param[p], candidate[k].param[p]);
                    }
                }
                if (best) {
                    return candidate[i];
                }
            }
            return null;
        }

        /** x, its PARENTS, ALL FACES of it; for makers x alone. */
        private int whereLooked(int x, boolean makers) {
            places[0] = x;
            int n = 1;
            int p = world.parent[x];
            for (int i = 0; i < world.chain[x] && p >= 0 && !makers; i++) {
                places[n] = p;
                n++;
                p = world.parent[p];
            }
            int faces = makers ? 0 : world.faces(x);
            for (int i = 0; i < faces; i++) {
                places[n] = world.all[x * WORLD_MOST + i];
                n++;
            }
            return n;
        }

        private void consider(Member m, Node args) {
            int p = 0;
            for (Node e = args; e != null && p < PARAMS; e = e.next) {
                if (!world.fits(e.type, m.param[p])) {
                    return;
                }
                p++;
            }
            for (int i = 0; i < candidates; i++) {
                if (candidate[i].sameParams(m)) {
                    return;
                }
            }
            if (candidates < candidate.length) {
                candidate[candidates] = m;
                candidates++;
            }
        }
    }

    /** Writes the USES of a judged text's classes and what runs. */
    private static final class Emitter {
        World world;
        Build build;
        Row row;
        int rowNumber;
        Member member;
        int startTail;
        int fieldTail;

        void write(World w, Build b) {
            world = w;
            build = b;
            for (int i = 0; i < build.rowCount; i++) {
                rowNumber = i;
                openRow(build.rows[i]);
                for (int k = 0; k < row.itemCount; k++) {
                    Member m = row.items[k];
                    member = m;
                    if (m.kind == FIELD) {
                        field(m);
                    } else if (m.kind == MAKER) {
                        maker(m);
                    } else if (m.block) {
                        body(m);
                    }
                }
                for (int k = 0; k < row.memberCount; k++) {
                    Member m = row.members[k];
                    if (m.bridge) {
                        bridge(m, row.plain(m));
                    } else if (m.kind == MAKER && !m.block) {
                        maker(m);
                    }
                }
                closeRow();
            }
        }

        private void openRow(Row r) {
            row = r;
            row.useFrom = build.useCount;
            row.begin = build.newMember();
            row.begin.kind = START;
            row.begin.code = NONE;
            row.fieldCode = NONE;
            row.slots = 0;
            startTail = NONE;
            fieldTail = NONE;
            int fixedSlots = 0;
            for (int i = 0; i < row.memberCount; i++) {
                Member m = row.members[i];
                if (m.kind == FIELD) {
                    m.code = m.fixed ? fixedSlots : row.slots;
                    fixedSlots += m.fixed ? 1 : 0;
                    row.slots += m.fixed ? 0 : 1;
                }
            }
            if (row.told) {
                useOf(U_PARENT, row.parent, null, NO);
            }
            for (int i = 0; i < row.counts[AS]; i++) {
                useOf(U_FACE, row.listedAt(AS, i), null, NO);
            }
        }

        /** The parts that START the class, and those that fill an OBJECT's fields, jump from one to the next. */
        private void closeRow() {
            row.useCount = build.useCount - row.useFrom;
            if (row.begin.code < 0) {
                row.begin.code = build.codeCount;
            }
            build.patch(startTail);
            build.emit(DO_STARTED, 0);
            if (row.fieldCode < 0) {
                row.fieldCode = build.codeCount;
            }
            build.patch(fieldTail);
            build.emit(DO_BACK, 0);
        }

        private void openStart() {
            if (row.begin.code < 0) {
                row.begin.code = build.codeCount;
            }
            build.patch(startTail);
        }

        private void body(Member m) {
            if (m.kind == START) {
                openStart();
                row.begin.locals = Math.max(row.begin.locals, m.locals);
                statement(m.body);
                startTail = build.emit(DO_JUMP, 0);
            } else {
                m.code = build.codeCount;
                statement(m.body);
                build.emit(DO_RETURN, 0);
            }
        }

        /** A field's E and its 17; what it gives is put in without a USE, for nothing is named in front of this =. */
        private void field(Member m) {
            if (m.body == null) {
                return;
            }
            int at = build.codeCount;
            if (m.constant) {
                expr(m.body);
                build.codeCount = at;
                return;
            }
            if (m.fixed) {
                openStart();
            } else {
                if (row.fieldCode < 0) {
                    row.fieldCode = at;
                }
                build.patch(fieldTail);
                build.emit(DO_LOAD, 0);
            }
            expr(m.body);
            useOf(U_FIT, m.body.type, null, m.type);
            build.emit(m.fixed ? DO_FILL_STATIC : DO_FILL, m.code);
            if (m.fixed) {
                startTail = build.emit(DO_JUMP, 0);
            } else {
                fieldTail = build.emit(DO_JUMP, 0);
            }
        }

        private void maker(Member m) {
            m.code = build.codeCount;
            Node first = m.body == null ? null : m.body.a;
            if (first != null && first.kind == N_SUPER_MAKER) {
                build.emit(DO_STEP, 0);
                if (row.parent != ANY) {
                    build.emit(DO_LOAD, 0);
                    args(first.a, first.member);
                    build.emit(DO_MAKER, useOf(U_MAKER, row.parent, first.member, NO));
                }
                first = first.next;
            } else if (row.parent != ANY) {
                build.emit(DO_LOAD, 0);
                build.emit(DO_MAKER, useOf(U_MAKER, row.parent, world.builtIn.rows[0].members[0], NO));
            }
            build.emit(DO_FIELDS, 0);
            for (Node s = first; s != null; s = s.next) {
                statement(s);
            }
            build.emit(DO_RETURN, 0);
            m.locals = Math.max(m.locals, 1);
        }

        /** A BRIDGE m to the method that it calls. */
        private void bridge(Member m, Member called) {
            if (called == null) {
                return;
            }
            m.code = build.codeCount;
            m.locals = m.count + (m.fixed ? 0 : 1);
            for (int i = 0; i < m.locals; i++) {
                build.emit(DO_LOAD, i);
            }
            int sort = m.fixed ? U_CALL_STATIC : U_CALL;
            build.emit(DO_CALL, useOf(row.face ? sort + 1 : sort, row.name, called, NO));
            useOf(U_FIT, called.type, null, m.type);
            build.emit(DO_GIVE, 0);
        }

        /** Whether a type that is wanted of another one is a USE 17. */
        private static boolean isFit(long type, long wanted) {
            boolean named = type != INT && type != VOID && type != NULL && wanted != INT && wanted != VOID;
            return named && type != wanted && wanted != ANY;
        }

        /** A USE of the class at hand: its number among these; each stands once. */
        private int useOf(int sort, long c, Member m, long other) {
            for (int i = row.useFrom; i < build.useCount; i++) {
                Member n = build.useMember[i];
                if (build.useSort[i] == sort && build.useClass[i] == c && build.useOther[i] == other
                    && (n == m || n != null && m != null && n.like(m))) {
                    return i - row.useFrom;
                }
            }
            boolean isNone = sort == U_FIT && !isFit(c, other);
            if (isNone || build.useCount >= build.useSort.length) {
                return 0;
            }
            int at = build.useCount;
            build.useSort[at] = sort;
            build.useOwner[at] = rowNumber;
            build.useClass[at] = c;
            build.useMember[at] = m;
            build.useOther[at] = other;
            build.useCount++;
            return at - row.useFrom;
        }

        private void args(Node first, Member m) {
            int i = 0;
            for (Node e = first; e != null; e = e.next) {
                expr(e);
                if (m != null && i < m.count) {
                    useOf(U_FIT, e.type, null, m.param[i]);
                }
                i++;
            }
        }

        private void statement(Node s) {
            if (s == null) {
                return;
            }
            if (s.kind == N_BLOCK) {
                for (Node part = s.a; part != null; part = part.next) {
                    statement(part);
                }
                return;
            }
            build.emit(DO_STEP, 0);
            switch (s.kind) {
                case N_LET:
                    expr(s.a);
                    useOf(U_FIT, s.a == null ? NO : s.a.type, null, s.type);
                    build.emit(DO_STORE, s.slot);
                    break;
                case N_IF:
                    branch(s);
                    break;
                case N_WHILE:
                    loop(s);
                    break;
                case N_RETURN:
                    if (s.a != null) {
                        expr(s.a);
                        useOf(U_FIT, s.a.type, null, member.type);
                    }
                    build.emit(s.a == null ? DO_RETURN : DO_GIVE, 0);
                    break;
                case N_THROW:
                    expr(s.a);
                    useOf(U_FIT, s.a == null ? NO : s.a.type, null, ILL);
                    build.emit(DO_THROW, 0);
                    break;
                case N_TRY:
                    tried(s);
                    break;
                case N_OUT:
                    expr(s.a);
                    build.emit(DO_OUT, 0);
                    break;
                case N_PUT:
                    Node t = Bodies.target(s.a);
                    boolean ofObject = t != null && t.member != null && !t.member.fixed;
                    if (ofObject && t == s.a) {
                        build.emit(DO_LOAD, 0);
                    } else if (ofObject) {
                        unit(s.a, t);
                    }
                    expr(s.b);
                    put(s, t);
                    break;
                default:
                    expr(s.a);
                    build.emit(DO_DROP, 0);
                    break;
            }
        }

        private void branch(Node s) {
            expr(s.a);
            int no = build.emit(DO_JUMP_ZERO, 0);
            statement(s.b);
            if (s.c != null) {
                int over = build.emit(DO_JUMP, 0);
                build.patch(no);
                no = over;
                statement(s.c);
            }
            build.patch(no);
        }

        private void loop(Node s) {
            int again = build.codeCount;
            build.emit(DO_STEP, 0);
            expr(s.a);
            int no = build.emit(DO_JUMP_ZERO, 0);
            statement(s.b);
            build.emit(DO_JUMP, again);
            build.patch(no);
        }

        private void tried(Node s) {
            int handler = build.emit(DO_TRY, 0);
            statement(s.a);
            build.emit(DO_TRIED, 0);
            int over = build.emit(DO_JUMP, 0);
            build.patch(handler);
            build.emit(DO_CATCH, useOf(U_CATCH, s.owner, null, NO));
            build.emit(DO_STORE, s.slot);
            statement(s.b);
            build.patch(over);
        }

        /** The value stands uppermost; of an OBJECT's field that stands below it. */
        private void put(Node s, Node t) {
            if (t == null || s.b == null) {
                return;
            }
            Member m = t.member;
            useOf(U_FIT, s.b.type, null, s.a.type);
            if (m == null) {
                build.emit(DO_STORE, t.slot);
            } else if (m.fixed) {
                build.emit(DO_PUT_STATIC, useOf(U_PUT_STATIC, t.owner, m, NO));
            } else {
                build.emit(DO_PUT, useOf(U_PUT, t.owner, m, NO));
            }
        }

        private void expr(Node n) {
            if (n == null) {
                return;
            }
            switch (n.kind) {
                case N_NUMBER:
                    build.emit(DO_PUSH, (int) n.owner);
                    break;
                case N_NULL:
                    build.emit(DO_PUSH, 0);
                    break;
                case N_THIS:
                    build.emit(DO_LOAD, 0);
                    break;
                case N_NAME:
                case N_OF_CLASS:
                    got(n);
                    break;
                case N_NEW:
                    build.emit(DO_NEW, useOf(U_MAKE, n.owner, null, NO));
                    build.emit(DO_TWICE, 0);
                    args(n.a, n.member);
                    build.emit(DO_MAKER, useOf(U_MAKER, n.owner, n.member, NO));
                    break;
                case N_CAST:
                    expr(n.a);
                    build.emit(DO_CAST, useOf(U_CAST, n.owner, null, NO));
                    break;
                case N_ROUND:
                    expr(n.a);
                    break;
                case N_UNIT:
                    unit(n, null);
                    break;
                case N_CHAIN:
                    chain(n);
                    break;
                case N_COMPARE:
                    expr(n.a);
                    expr(n.b);
                    build.emit(n.op == S_LESS ? DO_LESS : DO_SAME, 0);
                    break;
                default:
                    call(n);
                    break;
            }
        }

        private void got(Node n) {
            Member m = n.member;
            if (m == null) {
                build.emit(DO_LOAD, n.slot);
            } else if (m.constant) {
                useOf(U_COPY, n.owner, m, m.worth);
                build.emit(DO_PUSH, m.worth);
            } else if (m.fixed) {
                build.emit(DO_GET_STATIC, useOf(U_GET_STATIC, n.owner, m, NO));
            } else {
                build.emit(DO_LOAD, 0);
                build.emit(DO_GET, useOf(U_GET, n.owner, m, NO));
            }
        }

        /** NAME( ), C.NAME( ), super.NAME( ), C.super.NAME( ). */
        private void call(Node n) {
            Member m = n.member;
            if (m == null) {
                return;
            }
            if (!m.fixed) {
                build.emit(DO_LOAD, 0);
            }
            args(n.a, m);
            int sort = n.kind == N_SUPER ? U_SUPER : n.kind == N_SUPER_OF_FACE ? U_SUPER_FACE : callSort(n.owner, m);
            build.emit(DO_CALL, useOf(sort, n.owner, m, NO));
        }

        private int callSort(long owner, Member m) {
            int x = world.find(owner);
            boolean ofFace = x >= 0 && world.row[x].face;
            if (m.fixed) {
                return ofFace ? U_CALL_STATIC_FACE : U_CALL_STATIC;
            }
            return ofFace ? U_CALL_FACE : U_CALL;
        }

        /** A UNIT, up to one of what stands behind it, if that is told. */
        private void unit(Node n, Node end) {
            expr(n.a);
            for (Node s = n.b; s != null && s != end; s = s.next) {
                if (s.kind == N_ASK) {
                    build.emit(DO_ASK, useOf(U_ASK, s.owner, null, NO));
                } else if (s.kind == N_DOT) {
                    build.emit(DO_GET, useOf(U_GET, s.owner, s.member, NO));
                } else if (s.member != null) {
                    args(s.a, s.member);
                    build.emit(DO_CALL, useOf(callSort(s.owner, s.member), s.owner, s.member, NO));
                }
            }
        }

        private void chain(Node n) {
            expr(n.a);
            for (Node part = n.a == null ? null : n.a.next; part != null; part = part.next) {
                expr(part);
                build.emit(part.op == S_PLUS ? DO_PLUS : part.op == S_MINUS ? DO_MINUS : DO_TIMES, 0);
            }
        }

        /** Weaves: b's classes once more in a build of its own, each with the BRIDGES to a's RESULTS behind. */
        void copyRow(Build b, Build from, int k) {
            Row old = from.rows[k];
            Row r = b.newRow();
            if (r == null) {
                return;
            }
            build = b;
            row = r;
            rowNumber = k;
            r.name = old.name;
            r.tok = old.tok;
            r.open = old.open;
            r.face = old.face;
            r.last = old.last;
            r.bare = old.bare;
            r.told = old.told;
            r.parent = old.parent;
            r.within = old.within;
            System.arraycopy(old.listed, 0, r.listed, 0, old.listed.length);
            System.arraycopy(old.counts, 0, r.counts, 0, old.counts.length);
            for (int i = 0; i < old.itemCount; i++) {
                r.addItem(old.items[i]);
            }
            for (int i = 0; i < old.memberCount; i++) {
                r.add(old.members[i]);
            }
            r.begin = old.begin;
            r.fieldCode = old.fieldCode;
            r.slots = old.slots;
            r.useFrom = b.useCount;
            for (int i = old.useFrom; i < old.useFrom + old.useCount && b.useCount < b.useSort.length; i++) {
                int at = b.useCount;
                b.useSort[at] = from.useSort[i];
                b.useOwner[at] = k;
                b.useClass[at] = from.useClass[i];
                b.useMember[at] = from.useMember[i];
                b.useOther[at] = from.useOther[i];
                b.useCount++;
            }
            r.useCount = b.useCount - r.useFrom;
        }

        void addWoven(Member m, Member called) {
            bridge(m, called);
            row.useCount = build.useCount - row.useFrom;
        }
    }

    /** What was LOADED and LINKED in a world, and what USES meet there (part 4). */
    private static final class Loader {
        World world;
        final int[] state = new int[WORLD_MOST];
        final int[] failure = new int[WORLD_MOST];
        final int[] event = new int[WORLD_MOST * 5];
        int eventCount;
        final int[] trail = new int[WORLD_MOST];
        int trailCount;
        final int[] open = new int[WORLD_MOST + 2];
        final int[] step = new int[WORLD_MOST + 2];
        final int[] linking = new int[WORLD_MOST + 2];
        final int[] linkStep = new int[WORLD_MOST + 2];
        Member found;
        int foundAt;
        long foundName;
        int named;
        final int[] looked = new int[WORLD_MOST * 2 + 2];
        int lookedCount;
        final int[] useFrom = new int[WORLD_MOST + 1];
        final int[] asked;
        final Member[] askedMember;

        /** For so many USES it is kept what they met without failure; that stays so while nothing is undone. */
        Loader(int kept) {
            asked = new int[kept];
            askedMember = new Member[kept];
        }

        void clear(World w) {
            world = w;
            Arrays.fill(state, 0);
            state[0] = STARTED;
            state[1] = STARTED;
            eventCount = 0;
            trailCount = 0;
            int uses = 0;
            for (int x = 0; x < world.count && asked.length > 0; x++) {
                useFrom[x] = uses;
                uses += world.row[x].useCount;
            }
            for (int i = 0; i < uses && i < asked.length; i++) {
                asked[i] = 0;
            }
        }

        /** Whether it is kept that USE u of class d met no failure, and what was found then. */
        boolean recalls(int d, int u) {
            int i = useFrom[d] + u;
            if (i < 0 || i >= asked.length || asked[i] == 0) {
                return false;
            }
            found = askedMember[i];
            foundAt = asked[i] % 100 - 3;
            named = asked[i] / 100 - 3;
            return true;
        }

        void keep(int d, int u) {
            int i = useFrom[d] + u;
            if (i >= 0 && i < asked.length) {
                asked[i] = (named + 3) * 100 + foundAt + 3;
                askedMember[i] = found;
            }
        }

        void tellEvent(int x, int what) {
            if (eventCount < event.length) {
                event[eventCount] = 100 * x + what;
                eventCount++;
            }
        }

        /** Back to when so many classes had been asked to be LOADED. */
        void undo(int mark) {
            while (trailCount > mark) {
                trailCount--;
                state[trail[trailCount]] = 0;
            }
            eventCount = 0;
        }

        boolean isLoaded(int x) {
            return state[x] > 0 && state[x] != LOADING_FAILED;
        }

        /** LOADED x: 0 or its failure. PARENTS and FACES stand open on a stack of their own. */
        int load(int x) {
            int depth = 0;
            if (state[x] == 0) {
                depth = openLoad(x, 0);
            }
            for (int turn = 0; turn < LONG_LOOP && depth > 0; turn++) {
                int top = open[depth - 1];
                int i = step[depth - 1];
                Row r = world.row[top];
                boolean isParent = i == 0;
                int above = isParent ? world.parent[top] : i <= FACES ? world.face[top * FACES + i - 1] : NONE;
                if (isParent && r.face) {
                    step[depth - 1]++;
                } else if (i > r.counts[AS]) {
                    state[top] = LOADED;
                    tellEvent(top, LOADED);
                    depth--;
                } else if (above >= 0 && state[above] == 0) {
                    depth = openLoad(above, depth);
                } else {
                    int f = above < 0 ? NOT_THERE
                        : state[above] == BEING_LOADED ? RING
                        : state[above] == LOADING_FAILED ? failure[above]
                        : world.bar[top * (FACES + 1) + i];
                    step[depth - 1]++;
                    if (f != 0) {
                        state[top] = LOADING_FAILED;
                        failure[top] = f;
                        tellEvent(top, LOADING_FAILED);
                        depth--;
                    }
                }
            }
            return state[x] == BEING_LOADED ? RING : state[x] == LOADING_FAILED ? failure[x] : 0;
        }

        private int openLoad(int x, int depth) {
            state[x] = BEING_LOADED;
            if (trailCount < trail.length) {
                trail[trailCount] = x;
                trailCount++;
            }
            open[depth] = x;
            step[depth] = 0;
            return depth + 1;
        }

        /** LINKED x: 0 or its failure. Its own stack, for USES LOAD others meanwhile. */
        int link(int x) {
            int depth = 0;
            int f = load(x);
            if (f == 0 && state[x] == LOADED) {
                linking[0] = x;
                linkStep[0] = 0;
                depth = 1;
            }
            for (int turn = 0; turn < LONG_LOOP && depth > 0; turn++) {
                int top = linking[depth - 1];
                int i = linkStep[depth - 1];
                int above = i == 0 ? world.parent[top] : i <= FACES ? world.face[top * FACES + i - 1] : NONE;
                boolean last = i > FACES;
                if (!last && above >= 0 && state[above] == LOADED) {
                    linking[depth] = above;
                    linkStep[depth] = 0;
                    depth++;
                } else {
                    linkStep[depth - 1]++;
                    f = last ? linkOwn(top) : above >= 0 && state[above] == LINKING_FAILED ? failure[above] : 0;
                    if (last || f != 0) {
                        state[top] = f == 0 ? LINKED : LINKING_FAILED;
                        failure[top] = f;
                        tellEvent(top, state[top]);
                        depth--;
                    }
                }
            }
            return state[x] == LINKING_FAILED || state[x] == LOADING_FAILED ? failure[x] : f;
        }

        /** What x itself must hold to be LINKED; its PARENT and FACES are. */
        private int linkOwn(int x) {
            Row r = world.row[x];
            for (int i = 0; i < r.memberCount && !r.face; i++) {
                Member n = r.members[i];
                int p = world.parent[x];
                for (int k = 0; k < world.chain[x] && p >= 0 && n.kind == METHOD && n.ofObjects(); k++) {
                    Member m = world.row[p].method(n);
                    if (m != null && m.last && m.ofObjects() && world.overrides(x, p, m)) {
                        return OTHER_SORT;
                    }
                    p = world.parent[p];
                }
            }
            Build b = r.home;
            for (int i = r.useFrom; i < r.useFrom + r.useCount; i++) {
                int f = b.useSort[i] == U_FIT ? askFit(b.useClass[i], b.useOther[i])
                    : b.useSort[i] == U_CATCH ? askCatch(b.useClass[i]) : 0;
                if (f != 0) {
                    return f;
                }
            }
            return 0;
        }

        private int askFit(long what, long wanted) {
            int y = world.find(wanted);
            int f = y < 0 ? NOT_THERE : load(y);
            if (f != 0 || world.row[y].face) {
                return f;
            }
            int x = world.find(what);
            f = x < 0 ? NOT_THERE : load(x);
            return f != 0 || x == y || world.heir(x, y) ? f : UNFIT;
        }

        private int askCatch(long what) {
            int c = world.find(what);
            named = c;
            int f = c < 0 ? NOT_THERE : load(c);
            return f != 0 || c == 1 || world.heir(c, 1) ? f : UNFIT;
        }

        /** What USE u of class d meets: 0 or the failure; found, foundAt, named (C), looked tell more. */
        int ask(int d, int u) {
            found = null;
            foundAt = NONE;
            foundName = NO;
            lookedCount = 0;
            named = NONE;
            Row r = world.row[d];
            Build b = r.home;
            int i = r.useFrom + u;
            if (u < 0 || u >= r.useCount || i >= b.useCount) {
                return NOT_THERE;
            }
            int sort = b.useSort[i];
            if (sort == U_COPY) {
                return askCopy(b.useClass[i], b.useMember[i], b.useOther[i]);
            }
            int f = load(d);
            if (f != 0) {
                return f;
            }
            if (sort == U_FIT) {
                return askFit(b.useClass[i], b.useOther[i]);
            }
            if (sort == U_CATCH) {
                f = askCatch(b.useClass[i]);
                return f != 0 || world.isLet(named, d) ? f : NOT_LET;
            }
            int c = world.find(b.useClass[i]);
            named = c;
            f = c < 0 ? NOT_THERE : load(c);
            if (f == 0 && !world.isLet(c, d)) {
                f = NOT_LET;
            }
            if (f == 0 && sort <= U_SUPER_FACE) {
                f = askMember(d, c, sort, b.useMember[i]);
            }
            foundName = foundAt < 0 ? NO : world.row[foundAt].name;
            return f;
        }

        private int askMember(int d, int c, int sort, Member sig) {
            Row r = world.row[c];
            if (sort == U_MAKE) {
                return r.face || r.bare ? NO_MAKING : 0;
            }
            if (sig == null) {
                return NOT_THERE;
            }
            if (sort == U_MAKER) {
                if (r.face) {
                    return OTHER_SORT;
                }
                lookedCount = 1;
                looked[0] = c;
                found = r.maker(sig);
                foundAt = c;
                return found == null ? NO_METHOD : isLet(found, c, c, d) ? 0 : NOT_LET;
            }
            if (sort <= U_PUT_STATIC) {
                return askField(d, c, sort, sig);
            }
            boolean ofFace = sort == U_CALL_FACE || sort == U_CALL_STATIC_FACE || sort == U_SUPER_FACE;
            return r.face != ofFace ? OTHER_SORT : askMethod(d, c, sort, sig);
        }

        private int askField(int d, int c, int sort, Member sig) {
            found = world.fieldIn(c, sig.name, sig.type);
            foundAt = world.at;
            for (int i = 0; i < world.seenCount; i++) {
                looked[i] = world.seen[i];
            }
            lookedCount = world.seenCount;
            if (found == null) {
                return NO_FIELD;
            }
            if (!isLet(found, foundAt, c, d)) {
                return NOT_LET;
            }
            if (found.fixed == (sort == U_GET || sort == U_PUT)) {
                return OTHER_SORT;
            }
            boolean puts = sort == U_PUT || sort == U_PUT_STATIC;
            return puts && found.last && foundAt != d ? NOT_LET : 0;
        }

        private int askMethod(int d, int c, int sort, Member sig) {
            found = resolve(c, sig);
            foundAt = world.at;
            Member m = found;
            if (sort == U_SUPER || sort == U_SUPER_FACE) {
                found = null;
            }
            if (m == null) {
                return NO_METHOD;
            }
            if (!isLet(m, foundAt, c, d)) {
                return NOT_LET;
            }
            boolean wantsStatic = sort == U_CALL_STATIC || sort == U_CALL_STATIC_FACE;
            if (m.fixed != wantsStatic) {
                return OTHER_SORT;
            }
            return sort < U_SUPER ? 0 : askSuper(sort == U_SUPER ? world.parent[d] : c, sig);
        }

        /** The method of c that a USE means: world.at is its class; looked: where it was looked for. */
        private Member resolve(int c, Member sig) {
            int x = c;
            for (int i = 0; i <= world.chain[c] && x >= 0; i++) {
                looked[lookedCount] = x;
                lookedCount++;
                Member m = world.row[x].method(sig);
                if (m != null) {
                    world.at = x;
                    return m;
                }
                x = world.parent[x];
            }
            int n = world.faces(c);
            for (int i = 0; i < n; i++) {
                looked[lookedCount] = world.all[c * WORLD_MOST + i];
                lookedCount++;
            }
            if (world.mostSpecial(c, sig) == 1) {
                return world.special;
            }
            for (int i = 0; i < n; i++) {
                world.at = world.all[c * WORLD_MOST + i];
                Member m = world.row[world.at].method(sig);
                if (m != null && m.ofObjects()) {
                    return m;
                }
            }
            return null;
        }

        /** What a super call calls, from x on: found and foundAt. */
        private int askSuper(int from, Member sig) {
            int x = from;
            foundAt = NONE;
            for (int i = 0; from >= 0 && i <= world.chain[from] && x >= 0; i++) {
                Member m = world.row[x].method(sig);
                if (m != null && !m.fixed) {
                    if (m.bare) {
                        return IS_BARE;
                    }
                    found = m;
                    foundAt = x;
                    return 0;
                }
                x = world.parent[x];
            }
            int good = from < 0 ? 0 : world.mostSpecial(from, sig);
            if (good != 1) {
                return good > 1 ? OTHER_SORT : IS_BARE;
            }
            found = world.special;
            foundAt = world.at;
            return 0;
        }

        /** Whether the value that a USE 16 copied stands no more. */
        private int askCopy(long what, Member sig, long value) {
            int c = world.find(what);
            Member m = c < 0 || sig == null ? null : world.fieldIn(c, sig.name, INT);
            return m != null && m.constant && m.worth == value ? 0 : IS_STALE;
        }

        /** As the world tells it, but a NEST must be LOADED; d's is asked first. */
        private boolean isLet(Member m, int k, int c, int d) {
            if (m.access != OWN || d == k) {
                return world.isLet(m, k, c, d);
            }
            int one = world.host[d] >= 0 && load(world.host[d]) == 0 ? world.nest[d] : d;
            int other = world.host[k] >= 0 && load(world.host[k]) == 0 ? world.nest[k] : k;
            return one == other;
        }
    }

    /** The machine: it LOADS, LINKS, STARTS and runs (part 5). Calls and STARTS stand open as frames of its own. */
    private static final class Machine {
        private static final int F_CLASS = 0;
        private static final int F_AT = 1;
        private static final int F_BASE = 2;
        private static final int F_HANDLERS = 3;
        private static final int F_SORT = 4;
        private static final int F_BACK = 5;
        private static final int F_PHASE = 6;
        private static final int F_SIZE = 7;

        World world;
        final Loader loader = new Loader(USES_MOST * LIBRARIES);
        final int[] stack = new int[STACK_MOST];
        int top;
        final int[][] frame = new int[CALLS_MOST + 1][F_SIZE];
        int depth;
        final int[] handler = new int[CALLS_MOST * NESTED * 4];
        int handlers;
        final int[] objectClass = new int[OBJECTS_MOST + 2];
        final int[] objectFrom = new int[OBJECTS_MOST + 2];
        int objects;
        final int[] field = new int[FIELDS_MOST];
        int fields;
        final int[] statics = new int[WORLD_MOST * ITEMS];
        int steps;
        final int[] out = new int[OUTS_MOST];
        int outs;
        int failure;
        int thrown;
        int given;

        void clear(World w) {
            world = w;
            loader.clear(w);
            objects = 0;
            fields = 0;
            Arrays.fill(statics, 0);
        }

        /** Ahead of a run: its class is STARTED. */
        void open(int c) {
            steps = 0;
            outs = 0;
            failure = 0;
            thrown = 0;
            given = 0;
            top = 0;
            depth = 0;
            handlers = 0;
            ready(c);
        }

        void fail(int what) {
            failure = what;
            for (int i = depth - 1; i >= 0; i--) {
                if (frame[i][F_SORT] == START) {
                    loader.state[frame[i][F_CLASS]] = STARTING_FAILED;
                    loader.tellEvent(frame[i][F_CLASS], STARTING_FAILED);
                }
            }
            depth = 0;
            top = 0;
            handlers = 0;
        }

        private void push(int v) {
            if (top < stack.length) {
                stack[top] = v;
                top++;
            }
        }

        private int pop() {
            if (top <= 0) {
                return 0;
            }
            top--;
            return stack[top];
        }

        private int peek(int below) {
            int i = top - 1 - below;
            return i >= 0 && i < stack.length ? stack[i] : 0;
        }

        /** Whether a class is STARTED, or being so; if not, its START stands open now, or all has failed. */
        private boolean ready(int x) {
            int s = loader.state[x];
            if (s == STARTED || s == STARTING) {
                return true;
            }
            if (s == STARTING_FAILED || depth >= CALLS_MOST) {
                fail(s == STARTING_FAILED ? NEVER_STARTED : TOO_DEEP);
                return false;
            }
            int f = loader.link(x);
            if (f != 0) {
                fail(f);
                return false;
            }
            loader.state[x] = STARTING;
            loader.tellEvent(x, STARTING);
            openFrame(x, START, top, world.row[x].begin);
            frame[depth - 1][F_PHASE] = 0;
            return false;
        }

        private void openFrame(int x, int sort, int base, Member m) {
            int[] f = frame[depth];
            f[F_CLASS] = x;
            f[F_SORT] = sort;
            f[F_BASE] = base;
            f[F_HANDLERS] = handlers;
            f[F_PHASE] = NONE;
            f[F_BACK] = 0;
            f[F_AT] = m == null ? 0 : m.code;
            depth++;
            int end = base + (m == null ? 0 : m.locals);
            while (top < end && top < stack.length) {
                stack[top] = 0;
                top++;
            }
        }

        /** A call of m of class x, whose object and ARGS are the uppermost words. */
        void call(int x, Member m, int words, int sort) {
            if (steps >= STEPS_MOST) {
                fail(NO_STEPS);
            } else if (depth >= CALLS_MOST || top < words || top + STACK_SPARE > stack.length) {
                fail(TOO_DEEP);
            } else {
                steps++;
                openFrame(x, sort, top - words, m);
            }
        }

        /** One step of what stands open. What needs a START is come to again behind that. */
        void turn() {
            int[] f = frame[depth - 1];
            if (f[F_PHASE] >= 0) {
                int next = nextStart(f);
                if (next >= 0) {
                    ready(next);
                }
                return;
            }
            int d = f[F_CLASS];
            Build b = world.row[d].home;
            int at = f[F_AT];
            if (at < 0 || at + 1 >= b.codeCount) {
                fail(NO_STEPS);
                return;
            }
            int what = b.code[at];
            int number = b.code[at + 1];
            boolean on = true;
            if (what < DO_JUMP) {
                on = plainOne(f, what, number);
            } else if (what < DO_GET) {
                on = goOne(f, what, number);
            } else if (what != DO_CAST && what != DO_ASK || peek(0) != 0) {
                int failed = loader.recalls(d, number) ? 0 : loader.ask(d, number);
                int starts = what == DO_NEW ? loader.named : what == DO_GET_STATIC || what == DO_PUT_STATIC
                    || what == DO_CALL && loader.found != null && loader.found.fixed ? loader.foundAt : NONE;
                if (failed != 0) {
                    fail(failed);
                    return;
                }
                loader.keep(d, number);
                if (starts >= 0 && !ready(starts)) {
                    return;
                }
                on = useOne(f, what, b.useSort[world.row[d].useFrom + number]);
            }
            if (on) {
                f[F_AT] = at + 2;
            }
        }

        /** What is STARTED ahead of a class itself: its PARENT, then faces that run something; below 0: its CONSTANTS are set. */
        private int nextStart(int[] f) {
            int x = f[F_CLASS];
            int phase = f[F_PHASE];
            int next = world.row[x].face ? NONE : phase == 0 ? world.parent[x] : startedFace(x, phase);
            f[F_PHASE]++;
            if (next >= 0) {
                return next;
            }
            f[F_PHASE] = NONE;
            Row r = world.row[x];
            for (int i = 0; i < r.memberCount; i++) {
                Member m = r.members[i];
                if (m.kind == FIELD && m.constant) {
                    statics[x * ITEMS + m.code] = m.worth;
                }
            }
            return NONE;
        }

        /** The n-th, from 1, of the faces that a class STARTS: each behind its own FACES. */
        private int startedFace(int x, int n) {
            long come = 0;
            int left = n;
            int open = 1;
            int base = top;
            if (base + 2 * WORLD_MOST + 2 > stack.length) {
                return NONE;
            }
            stack[base] = x;
            stack[base + 1] = 0;
            for (int turn = 0; turn < LONG_LOOP && open > 0; turn++) {
                int at = base + 2 * (open - 1);
                int y = stack[at];
                int i = stack[at + 1];
                stack[at + 1]++;
                int next = i < FACES ? world.face[y * FACES + i] : NONE;
                if (i >= FACES) {
                    open--;
                    left -= y != x && world.row[y].hasRunning() ? 1 : 0;
                    if (left == 0) {
                        return y;
                    }
                } else if (next >= 0 && (come >>> next & 1) == 0) {
                    come |= 1L << next;
                    stack[at + 2] = next;
                    stack[at + 3] = 0;
                    open++;
                }
            }
            return NONE;
        }

        private boolean plainOne(int[] f, int what, int number) {
            switch (what) {
                case DO_STEP:
                    if (steps >= STEPS_MOST) {
                        fail(NO_STEPS);
                        return false;
                    }
                    steps++;
                    return true;
                case DO_PUSH:
                    push(number);
                    return true;
                case DO_LOAD:
                    int from = f[F_BASE] + number;
                    push(from >= 0 && from < top ? stack[from] : 0);
                    return true;
                case DO_STORE:
                    int v = pop();
                    int to = f[F_BASE] + number;
                    if (to >= 0 && to < top) {
                        stack[to] = v;
                    }
                    return true;
                case DO_DROP:
                    pop();
                    return true;
                case DO_TWICE:
                    push(peek(0));
                    return true;
                default:
                    int right = pop();
                    int left = pop();
                    push(reckon(what, left, right));
                    return true;
            }
        }

        private static int reckon(int what, int left, int right) {
            switch (what) {
                case DO_PLUS:
                    return left + right;
                case DO_MINUS:
                    return left - right;
                case DO_TIMES:
                    return left * right;
                case DO_LESS:
                    return left < right ? 1 : 0;
                default:
                    return left == right ? 1 : 0;
            }
        }

        private boolean goOne(int[] f, int what, int number) {
            switch (what) {
                case DO_JUMP:
                    f[F_AT] = number;
                    return false;
                case DO_JUMP_ZERO:
                    boolean jumps = pop() == 0;
                    if (jumps) {
                        f[F_AT] = number;
                    }
                    return !jumps;
                case DO_OUT:
                    int v = pop();
                    if (outs < OUTS_MOST) {
                        out[outs] = v;
                        outs++;
                    }
                    return true;
                case DO_THROW:
                    throwOne(pop());
                    return false;
                case DO_TRY:
                    if (2 * handlers + 1 < handler.length) {
                        handler[2 * handlers] = number;
                        handler[2 * handlers + 1] = top;
                        handlers++;
                    }
                    return true;
                case DO_TRIED:
                    handlers = Math.max(handlers - 1, f[F_HANDLERS]);
                    return true;
                case DO_FIELDS:
                    f[F_BACK] = f[F_AT] + 2;
                    f[F_AT] = world.row[f[F_CLASS]].fieldCode;
                    return false;
                case DO_BACK:
                    f[F_AT] = f[F_BACK];
                    return false;
                case DO_FILL:
                    return fieldOne(true, f[F_CLASS], number);
                case DO_FILL_STATIC:
                    return staticOne(true, f[F_CLASS], number);
                case DO_STARTED:
                    loader.state[f[F_CLASS]] = STARTED;
                    loader.tellEvent(f[F_CLASS], STARTED);
                    close(f);
                    return false;
                default:
                    giveBack(f, what == DO_GIVE ? pop() : 0);
                    return false;
            }
        }

        private void close(int[] f) {
            depth--;
            top = f[F_BASE];
            handlers = f[F_HANDLERS];
        }

        private void giveBack(int[] f, int v) {
            close(f);
            if (f[F_SORT] == METHOD) {
                if (depth == 0) {
                    given = v;
                } else {
                    push(v);
                }
            }
        }

        /** An OBJECT is thrown: to the innermost catch, or out of all. */
        private void throwOne(int object) {
            if (object == 0) {
                fail(IS_NULL);
                return;
            }
            for (int i = 0; i <= CALLS_MOST && depth > 0; i++) {
                int[] f = frame[depth - 1];
                if (handlers > f[F_HANDLERS]) {
                    handlers--;
                    f[F_AT] = handler[2 * handlers];
                    top = handler[2 * handlers + 1];
                    push(object);
                    return;
                }
                if (f[F_SORT] == START) {
                    fail(START_THREW);
                    return;
                }
                close(f);
            }
            thrown = object;
        }

        /** What asked a USE, and STARTED what it needs; whether the next one is come to. */
        private boolean useOne(int[] f, int what, int sort) {
            int c = loader.named;
            int k = loader.foundAt;
            Member m = loader.found;
            if (what == DO_NEW) {
                return newOne(c);
            }
            if (what >= DO_CAST) {
                return isOne(what, c);
            }
            if (m == null || k < 0) {
                fail(NO_METHOD);
                return false;
            }
            if (what <= DO_PUT) {
                return fieldOne(what == DO_PUT, k, m.code);
            }
            if (what <= DO_PUT_STATIC) {
                return staticOne(what == DO_PUT_STATIC, k, m.code);
            }
            if (what == DO_MAKER) {
                return makerOne(f, k, m);
            }
            if (sort == U_CALL || sort == U_CALL_FACE) {
                selectOne(f, sort, c, k, m);
                return false;
            }
            f[F_AT] += 2;
            call(k, m, m.count + (m.fixed ? 0 : 1), METHOD);
            return false;
        }

        private boolean newOne(int c) {
            int n = slotsTo(c);
            if (objects >= OBJECTS_MOST || fields + n > FIELDS_MOST) {
                fail(NO_ROOM);
                return false;
            }
            objects++;
            objectClass[objects] = c;
            objectFrom[objects] = fields;
            for (int i = 0; i < n; i++) {
                field[fields] = 0;
                fields++;
            }
            push(objects);
            return true;
        }

        /** How many fields an OBJECT of class x has. */
        int slotsTo(int x) {
            int n = world.row[x].slots;
            int p = world.parent[x];
            for (int i = 0; i < world.chain[x] && p >= 0; i++) {
                n += world.row[p].slots;
                p = world.parent[p];
            }
            return n;
        }

        private boolean isOne(int what, int c) {
            int object = peek(0);
            int r = object > 0 && object <= objects ? objectClass[object] : 0;
            boolean is = c >= 0 && (r == c || world.heir(r, c));
            if (what == DO_ASK) {
                pop();
                push(is ? 1 : 0);
                return true;
            }
            if (is) {
                return true;
            }
            if (what == DO_CAST) {
                fail(NO_CAST);
            } else {
                throwOne(object);
            }
            return false;
        }

        /** Field number slot of class k is put, or got, of the OBJECT that is uppermost. */
        private boolean fieldOne(boolean puts, int k, int slot) {
            int v = puts ? pop() : 0;
            int object = pop();
            if (object <= 0 || object > objects) {
                fail(IS_NULL);
                return false;
            }
            int at = objectFrom[object] + slotsTo(k) - world.row[k].slots + slot;
            if (at < 0 || at >= fields) {
                fail(OTHER_SORT);
                return false;
            }
            if (puts) {
                field[at] = v;
            } else {
                push(field[at]);
            }
            return true;
        }

        private boolean staticOne(boolean puts, int k, int slot) {
            int at = k * ITEMS + slot;
            if (at < 0 || at >= statics.length) {
                return true;
            }
            if (puts) {
                statics[at] = pop();
            } else {
                push(statics[at]);
            }
            return true;
        }

        private void selectOne(int[] f, int sort, int c, int k, Member m) {
            int object = peek(m.count);
            if (object <= 0 || object > objects) {
                fail(IS_NULL);
                return;
            }
            int r = objectClass[object];
            if (sort == U_CALL_FACE && !world.heir(r, c)) {
                fail(OTHER_SORT);
                return;
            }
            Member s = world.selected(m, k, r);
            if (s == null) {
                fail(world.why);
            } else if (sort == U_CALL_FACE && s.access != OPEN && s.access != OWN) {
                fail(NOT_LET);
            } else {
                f[F_AT] += 2;
                call(world.at, s, m.count + 1, METHOD);
            }
        }

        private boolean makerOne(int[] f, int k, Member m) {
            if (k <= 1) {
                top = Math.max(top - m.count - 1, 0);
                return true;
            }
            f[F_AT] += 2;
            call(k, m, m.count + 1, MAKER);
            return false;
        }
    }

    /** Holds two builds against one another. */
    private static final class Differ {
        private static final int ENTRY = 5;

        Build a;
        Build b;
        boolean keeps;
        final int[] list = new int[ENTRY * CHANGES_MOST];
        int count;
        int grade;
        int rowA;
        int rowB;
        final int[] tokensA = new int[TOKENS];
        final int[] tokensB = new int[TOKENS];

        /** How many DIFFERENCES; the list is kept if asked; grade is the version word. */
        int compare(Build one, Build other, boolean keep) {
            a = one;
            b = other;
            keeps = keep;
            int n = 0;
            grade = 0;
            count = keep ? 0 : count;
            for (rowA = 0; rowA < a.rowCount; rowA++) {
                Row x = a.rows[rowA];
                Row y = b.named(x.name);
                rowB = y == null ? NONE : b.indexOf(y);
                if (y == null) {
                    n += note(1, NONE, NONE);
                } else if (x.face != y.face) {
                    n += note(2, NONE, NONE);
                } else {
                    n += heads(x, y) + faces(x, y) + only(x, y) + fields(x, y) + methods(x, y) + makers(x, y);
                    n += sameStarts(x, y) ? 0 : note(60, NONE, NONE);
                }
            }
            rowA = NONE;
            for (rowB = 0; rowB < b.rowCount; rowB++) {
                n += a.named(b.rows[rowB].name) == null ? note(70, NONE, NONE) : 0;
            }
            return n;
        }

        private int note(int number, int memberA, int memberB) {
            boolean mild = number == 39 || number == 53 || number == 60;
            grade = Math.max(grade, mild ? 1 : breaks(number) ? 3 : 2);
            if (keeps && ENTRY * count + ENTRY <= list.length) {
                list[ENTRY * count] = number;
                list[ENTRY * count + 1] = rowA;
                list[ENTRY * count + 2] = rowB;
                list[ENTRY * count + 3] = memberA;
                list[ENTRY * count + 4] = memberB;
                count++;
            }
            return 1;
        }

        private static boolean breaks(int number) {
            switch (number) {
                case 1: case 2: case 3: case 5: case 7: case 9: case 10: case 13:
                case 20: case 21: case 22: case 23: case 25:
                case 30: case 31: case 32: case 33: case 35: case 37: case 41:
                case 50: case 51:
                    return true;
                default:
                    return false;
            }
        }

        /** One number if something is so only behind, the next if only ahead. */
        private int turned(boolean was, boolean is, int number, int memberA, int memberB) {
            return was == is ? 0 : note(is ? number : number + 1, memberA, memberB);
        }

        private int access(int was, int is, int number, int memberA, int memberB) {
            return was == is ? 0 : note(is < was ? number : number + 1, memberA, memberB);
        }

        private int heads(Row x, Row y) {
            int n = turned(!x.open, !y.open, 3, NONE, NONE);
            n += turned(x.last, y.last, 5, NONE, NONE);
            n += turned(x.bare, y.bare, 7, NONE, NONE);
            return n + (x.parent != y.parent ? note(9, NONE, NONE) : 0);
        }

        private int faces(Row x, Row y) {
            int n = 0;
            for (int i = 0; i < x.counts[AS]; i++) {
                n += y.has(AS, x.listedAt(AS, i)) ? 0 : note(10, NONE, NONE);
            }
            for (int i = 0; i < y.counts[AS]; i++) {
                n += x.has(AS, y.listedAt(AS, i)) ? 0 : note(11, NONE, NONE);
            }
            return n + (x.within != y.within ? note(12, NONE, NONE) : 0);
        }

        private int only(Row x, Row y) {
            if (y.counts[ONLY] == 0) {
                return x.counts[ONLY] == 0 ? 0 : note(14, NONE, NONE);
            }
            boolean lacks = x.counts[ONLY] == 0;
            boolean other = x.counts[ONLY] != y.counts[ONLY];
            for (int i = 0; i < x.counts[ONLY]; i++) {
                lacks |= !y.has(ONLY, x.listedAt(ONLY, i));
                other |= x.listedAt(ONLY, i) != y.listedAt(ONLY, i);
            }
            return lacks ? note(13, NONE, NONE) : other ? note(14, NONE, NONE) : 0;
        }

        private int fields(Row x, Row y) {
            int n = 0;
            for (int i = 0; i < x.memberCount; i++) {
                Member m = x.members[i];
                if (m.kind == FIELD) {
                    Member o = y.field(m.name, NO);
                    n += o == null ? note(20, i, NONE) : field(m, o, i, indexIn(y, o));
                }
            }
            for (int i = 0; i < y.memberCount; i++) {
                Member o = y.members[i];
                n += o.kind == FIELD && x.field(o.name, NO) == null ? note(28, NONE, i) : 0;
            }
            return n;
        }

        private static int indexIn(Row r, Member m) {
            for (int i = 0; i < r.memberCount; i++) {
                if (r.members[i] == m) {
                    return i;
                }
            }
            return NONE;
        }

        private int field(Member m, Member o, int i, int k) {
            int n = m.type != o.type ? note(21, i, k) : 0;
            n += m.fixed != o.fixed ? note(22, i, k) : 0;
            if (n > 0) {
                return n;
            }
            n = turned(m.last, o.last, 23, i, k);
            n += access(m.access, o.access, 25, i, k);
            boolean other = m.constant != o.constant || m.constant && m.worth != o.worth;
            return n + (other ? note(27, i, k) : 0);
        }

        private int methods(Row x, Row y) {
            int n = 0;
            for (int i = 0; i < x.memberCount; i++) {
                Member m = x.members[i];
                if (m.kind == METHOD && !m.bridge) {
                    Member o = y.plain(m);
                    n += o == null ? note(30, i, NONE) : method(m, o, i, indexIn(y, o));
                }
            }
            for (int i = 0; i < y.memberCount; i++) {
                Member o = y.members[i];
                if (o.kind == METHOD && !o.bridge && x.plain(o) == null) {
                    n += note(o.bare ? 41 : 40, NONE, i);
                }
            }
            return n;
        }

        private int method(Member m, Member o, int i, int k) {
            int n = m.type != o.type ? note(31, i, k) : 0;
            n += m.fixed != o.fixed ? note(32, i, k) : 0;
            if (n > 0) {
                return n;
            }
            n = turned(m.last, o.last, 33, i, k);
            n += turned(m.bare, o.bare, 35, i, k);
            n += access(m.access, o.access, 37, i, k);
            return n + (m.block && o.block && !sameBlocks(m, o) ? note(39, i, k) : 0);
        }

        private int makers(Row x, Row y) {
            int n = 0;
            for (int i = 0; i < x.memberCount; i++) {
                Member m = x.members[i];
                Member o = m.kind == MAKER ? y.maker(m) : null;
                if (m.kind == MAKER && o == null) {
                    n += note(50, i, NONE);
                } else if (o != null) {
                    int k = indexIn(y, o);
                    n += access(m.access, o.access, 51, i, k);
                    n += sameBlocks(m, o) ? 0 : note(53, i, k);
                }
            }
            for (int i = 0; i < y.memberCount; i++) {
                Member o = y.members[i];
                n += o.kind == MAKER && x.maker(o) == null ? note(54, NONE, i) : 0;
            }
            return n;
        }

        /** Whether two BLOCKS have the same tokens; one that was not told is {}. */
        private boolean sameBlocks(Member m, Member o) {
            if (!m.block || !o.block) {
                return (!m.block || m.to - m.from == 2) && (!o.block || o.to - o.from == 2);
            }
            int n = range(m, tokensA, 0);
            return n == range(o, tokensB, 0) && sameTokens(n);
        }

        private static int range(Member m, int[] into, int n) {
            int end = n;
            for (int t = m.from; t < m.to && end < into.length; t++) {
                into[end] = t;
                end++;
            }
            return end;
        }

        private static int starts(Row r, int[] into) {
            int n = 0;
            for (int i = 0; i < r.itemCount; i++) {
                Member m = r.items[i];
                if (m.kind == START || m.kind == FIELD && !m.constant) {
                    n = range(m, into, n);
                }
            }
            return n;
        }

        private boolean sameStarts(Row x, Row y) {
            int n = starts(x, tokensA);
            return n == starts(y, tokensB) && sameTokens(n);
        }

        private boolean sameTokens(int n) {
            for (int i = 0; i < n; i++) {
                int from = a.from[tokensA[i]];
                int size = a.to[tokensA[i]] - from;
                int other = b.from[tokensB[i]];
                if (b.to[tokensB[i]] - other != size) {
                    return false;
                }
                for (int k = 0; k < size; k++) {
                    if (a.text[from + k] != b.text[other + k]) {
                        return false;
                    }
                }
            }
            return true;
        }
    }
}
