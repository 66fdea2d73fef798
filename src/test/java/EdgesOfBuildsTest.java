/** Part 3 of the document: what stands beside a text, its FAULTS at their bounds, CONSTANTS, scopes, CANDIDATES, USES. */
public final class EdgesOfBuildsTest {
    public static void main(String[] args) {
        eightEachSixteenInAll();
        libraries();
        theWorldBesideIt();
        whatNameMeans();
        steps();
        toldAlready();
        headsOneByOne();
        eachOfAHead();
        onlyAcrossLibraries();
        membersOneByOne();
        aboveOneByOne();
        defaultMakers();
        bridges();
        bridges13();
        owed();
        noBridgeIsOwed();
        owedFromFarAbove();
        constants();
        constantsAcross();
        wrapping();
        scopes();
        ends();
        puts();
        statements();
        unitsAlone();
        builtInNamed();
        candidates();
        superMakers();
        usesOnce();
        usesOfBridges();
        usesFitByEach();
        eachParamCounts();
        emptyBuild();
        behindWhatWasNotKept();
        Check.end("EdgesOfBuildsTest");
    }

    private static void fault(int fault, String text) {
        Check.fault("", fault, text);
    }

    private static Check fine(String text) {
        return Check.fine("", text);
    }

    /** A text of a library beside what stands; '@' at the FAULT's place. */
    private static void made(Check c, int lib, int fault, String text) {
        int place = text.indexOf('@');
        int had = c.x.builds(lib);
        int answer = c.make(lib, text.replace("@", ""));
        Check.due(text, answer, fault == 0 ? had : -10 - fault);
        Check.due("place in " + text, c.x.place(), fault == 0 ? LinkHouse.NONE : place);
        Check.due("builds behind " + text, c.x.builds(lib), fault == 0 ? had + 1 : had);
    }

    /** Libraries have builds, 0, 1 .. (8 each, 16 in all). */
    private static void eightEachSixteenInAll() {
        for (int lib = 0; lib < 5; lib++) {
            Check c = new Check();
            for (int i = 0; i < 8; i++) {
                Check.due("build", c.make(lib, "class a.A" + i + " { }"), i);
            }
            Check.due("the ninth", c.make(lib, "class a.A { }"), LinkHouse.FULL);
            Check.due("builds", c.x.builds(lib), 8);
            Check.due("the last", c.head(lib, 7, 0), "class a.A7");
            Check.due("there is no ninth", c.x.classes(lib, 8), LinkHouse.BAD);
            Check.due("another's first", c.make((lib + 1) % 5, "class a.A { }"), 0);
        }
        Check c = new Check();
        int[] each = {4, 3, 3, 3, 3};
        for (int lib = 0; lib < 5; lib++) {
            for (int i = 0; i < each[lib]; i++) {
                Check.due("builds in all", c.x.told(7), lib * 3 + i + (lib > 0 ? 1 : 0));
                Check.due("build", c.make(lib, "class a.A" + lib + i + " { }"), i);
            }
        }
        Check.due("sixteen", c.x.told(7), 16);
        for (int lib = 0; lib < 5; lib++) {
            Check.due("the seventeenth", c.make(lib, "class a.A { }"), LinkHouse.FULL);
            Check.due("builds", c.x.builds(lib), each[lib]);
            Check.due("the last", c.head(lib, each[lib] - 1, 0), "class a.A" + lib + (each[lib] - 1));
        }
        Check d = new Check();
        d.make(0, "class a.A { open z.Any f() { return null; } }");
        d.make(0, "class a.A { open a.A f() { return null; } }");
        for (int i = 2; i < 8; i++) {
            Check.due("a woven one is a build", d.x.weave(0, 0, 1), i);
        }
        Check.due("the ninth", d.x.weave(0, 0, 1), LinkHouse.FULL);
        Check.due("the ninth", d.make(0, ""), LinkHouse.FULL);
        // A FAULT is no build.
        Check e = new Check();
        for (int i = 0; i < 20; i++) {
            Check.due("a fault", e.make(0, "class z.A { }"), -14);
        }
        Check.due("none", e.x.told(7), 0);
        Check.due("none", e.x.builds(0), 0);
    }

    /** Libraries 0 .. 4. */
    private static void libraries() {
        Check c = new Check();
        c.tape("class a.A { }");
        for (int lib : new int[] {-1, 5, -2, -3, 6, Integer.MIN_VALUE, Integer.MAX_VALUE}) {
            Check.due("make", c.x.make(lib), LinkHouse.BAD);
            Check.due("builds", c.x.builds(lib), LinkHouse.BAD);
            Check.due("picked", c.x.picked(lib), LinkHouse.BAD);
            Check.due("pick", c.x.pick(lib, LinkHouse.NONE), LinkHouse.BAD);
        }
        Check.due("THE TAPE stays", c.x.told(6), 13);
        for (int lib = 0; lib < 5; lib++) {
            Check.due("make", c.make(lib, "class a.A { }"), 0);
            Check.due("builds", c.x.builds(lib), 1);
        }
    }

    /** A text is judged with THE WORLD, in which its own library's build is not. */
    private static void theWorldBesideIt() {
        Check c = new Check();
        c.stand(1, "open class a.A { }");
        made(c, 1, 5, "class b.B is @a.A { }");
        made(c, 0, 0, "class b.B is a.A { }");
        made(c, 4, 0, "class b.B is a.A { }");
        made(c, 1, 0, "final class a.A { }");
        c.x.pick(1, 1);
        made(c, 0, 5, "class a.B is @a.A { }");
        c.x.pick(1, LinkHouse.NONE);
        made(c, 0, 5, "class b.B is @a.A { }");
        // A NAME told there is no NAME told already.
        made(c, 0, 0, "class a.A { }");
        c.x.pick(0, c.x.builds(0) - 1);
        made(c, 0, 0, "class a.A { } class b.B { }");
        made(c, 1, 0, "class a.A { } class b.B { }");
    }

    /** A C means the class of the text, else the built in, else that of the first library that has it there. */
    private static void whatNameMeans() {
        Check c = new Check();
        c.stand(3, "open class a.A { open int x; } open class a.C { open a.A v; }");
        c.stand(1, "open class a.A { open int y; } open class a.B { open a.A v; }");
        made(c, 0, 0, "class b.B { int f(a.A v) { return v.y; } int g(a.C v) { return v.v.y; } }");
        made(c, 4, 11, "class b.B { int f(a.A v) { return v.@x; } }");
        made(c, 0, 0, "open class a.A { open int z; } class b.B { int f(a.B v) { return v.v.z; } }");
        made(c, 0, 11, "open class a.A { open int z; } class b.B { int f(a.B v) { return v.v.@y; } }");
        c.x.pick(1, LinkHouse.NONE);
        made(c, 0, 0, "class b.B { int f(a.A v) { return v.x; } }");
        made(c, 0, 7, "class b.B { @a.B v; }");
        c.x.pick(1, 0);
        c.stand(0, "open class a.A { open int w; }");
        made(c, 2, 0, "class b.B { int f(a.A v) { return v.w; } int g(a.C v) { return v.v.w; } int h(a.B v) { return v.v.w; } }");
        made(c, 2, 11, "class b.B { int f(a.B v) { return v.v.@y; } }");
    }

    /** FAULTS in this order of steps, in each class by class, in order of their places. */
    private static void steps() {
        String two = "class a.P { % } class a.Q is a.P { % } ";
        fault(1, "class z.A { } @$");
        fault(2, "class z.A { @; ");
        fault(4, "class a.A { bare int f; } class @z.B { }");
        fault(5, "class a.A { bare int f; } class a.B is @a.X { }");
        fault(5, "class a.A is @a.X as a.X { } class a.B is a.X { }");
        fault(5, "class a.A as @a.X in a.X with a.X only a.X { }");
        fault(5, "class a.A in @a.X with a.X only a.X { }");
        fault(5, "class a.A with @a.X only a.X { }");
        fault(5, "class a.A only a.A, @a.X { }");
        fault(5, "class a.A is a.A { } class a.B is @a.X { }");
        fault(5, "class @a.A is a.A { bare int f; } class a.B is a.B { }");
        fault(5, "class a.A { bare int f; } class @a.B is a.B { }");
        fault(8, "class a.P { open int f() { return 1; } } class a.Q is a.P { int f() { return 1; } } class a.R { bare int @f; }");
        fault(7, "class a.P { open int f() { return 1; } } class a.Q is a.P { int f() { return 1; } @a.X g; }");
        fault(6, "class a.P { open int f() { return 1; } } class a.Q is a.P { int f() { return 1; } int @f() { return 2; } }");
        fault(9, "bare class a.P { open bare int f(); } class a.Q is a.P { } class a.R is a.P { int @f() { return 1; } }");
        fault(9, "class a.P { int x = y; open int f() { return 1; } } class a.R is a.P { int @f() { return 1; } }");
        fault(10, "bare class a.P { open bare int f(); int x = y; } class @a.Q is a.P { }");
        fault(11, "class a.P { int x = @y; } class a.Q { int x = y; }");
        StringBuilder up = new StringBuilder();
        StringBuilder down = new StringBuilder();
        for (int i = 0; i < 13; i++) {
            up.append("open z.Any f").append(i).append("() { return null; } ");
            down.append("open a.P f").append(i).append("() { return null; } ");
        }
        String many = two.replaceFirst("%", up.toString()).replaceFirst("%", down.toString());
        fault(3, many.replace("class a.Q", "class @a.Q"));
        fault(3, "bare class a.B { open bare int f(); } class a.C is a.B { } " + many.replace("class a.Q", "class @a.Q"));
        fault(9, many + "class a.S { open int f() { return 1; } } class a.T is a.S { int @f() { return 1; } }");
        fault(3, many.replace("class a.Q", "class @a.Q") + "class a.S { int x = y; }");
        // Class by class, each of its members: not step by step of one class.
        fault(8, "class a.A { a.A x; bare int @f; a.X y; } class a.B { a.X z; }");
        fault(7, "class a.A { @a.X x; bare int f; }");
        fault(11, "class a.A { int f() { return @y; } int g() { } } class a.B { int h() { } }");
        fault(17, "class a.A { int @g() { } int f() { return y; } }");
    }

    /** 4 a class told already, or of PACKAGE z. */
    private static void toldAlready() {
        fault(4, "class a.A { } class a.B { } face @a.A { } class a.A { }");
        fine("class a.A { } class b.A { } class a.AA { } class a.Aa { }");
        fault(4, "face @z.F { }");
        fault(4, "class @z.Any { } class z.Ill { }");
        fine("class y.A { } class a.Z { }");
        fault(4, "class @z.A is a.X { }");
        fault(5, "class a.A is @a.X { } class a.A { }");
    }

    private static void headsOneByOne() {
        String base = "open class b.P { } class b.Q { } open final class b.L { } open bare class b.R { } open face b.F { } face b.G { } open face b.H only b.F { } open class b.O only b.P { } ";
        String[][] all = {{"0", "class a.A is b.P { }"}, {"5", "class a.A is @b.Q { }"}, {"5", "class a.A is @b.L { }"}, {"0", "class a.A is b.R { }"}, {"5", "class a.A is @b.F { }"}, {"5", "class a.A is @b.O { }"},
            {"5", "class a.A is @b.X { }"}, {"5", "face a.A is @b.P { }"}, {"5", "face a.A is @z.Any { }"}, {"0", "class a.A as b.F { }"}, {"0", "face a.A as b.F { }"}, {"5", "class a.A as @b.G { }"}, {"5", "class a.A as @b.H { }"}, {"5", "class a.A as @b.P { }"},
            {"5", "class a.A as @b.X { }"}, {"5", "class a.A as b.F, @b.F { }"}, {"5", "face a.A as b.F, @b.F { }"}, {"0", "class b.A is b.Q as b.G { }"}, {"5", "class a.A in @b.P { }"}, {"5", "class b.A in @b.P { }"}, {"5", "class a.A in @a.X { }"},
            {"5", "class a.A with @b.P { }"}, {"5", "class a.A only @b.P { }"}, {"5", "class a.A with @z.Any { }"}, {"5", "class a.A only @z.Any { }"}, {"0", "class a.A only a.A { }"}, {"5", "class a.A with @a.A { }"}, {"0", "class a.A in a.A with a.A { }"},
            {"0", "class a.A with a.B, a.B { } face a.B in a.A { }"}, {"5", "class a.A with @a.B { } class a.B in a.C { } class a.C with a.B { }"}, {"5", "class a.A with a.B { } class a.B in a.A { } class a.D with @a.B { }"},
            {"0", "class a.A only b.B { } class b.B { }"}, {"5", "class a.A with b.B { } class b.B in @a.A { }"}, {"5", "class b.B in @a.A { } class a.A with b.B { }"}, {"5", "class a.B in @a.A { } class a.A { }"},
            {"0", "final class a.A is b.P { } bare class a.B is b.P { }"}, {"5", "final class a.A { } class a.B is @a.A { }"}, {"0", "class a.A only a.B { } class a.B is a.A { }"}, {"5", "class a.A only a.B { } class a.B { } class a.C is @a.A { }"},
            {"0", "face a.F only a.B { } class a.B as a.F { }"}, {"5", "face a.F only a.B { } class a.B { } face a.C as @a.F { }"}};
        for (String[] each : all) {
            if (each[0].equals("0")) {
                Check.fine(base, each[1]);
            } else {
                Check.fault(base, 5, each[1]);
            }
        }
    }

    /** 5 at that C, wherever in a head it stands, whatever of the head lacks; the first in the text is told. */
    private static void eachOfAHead() {
        String[][] parts = {{" is ", "a.P"}, {" as ", "a.F", "a.G", "a.H", "a.I"}, {" in ", "a.O"}, {" with ", "a.W", "a.V"}, {" only ", "a.X", "a.A", "a.P"}};
        String others = " { } class a.P { } face a.F { } face a.G { } face a.H { } face a.I { } class a.O with a.A { } class a.W in a.A { } class a.V in a.A { } class a.X { }";
        fine("class a.A" + head(parts, 31, -1, -1) + others);
        for (int mask = 1; mask < 32; mask++) {
            for (int part = 0; part < 5; part++) {
                for (int k = 1; k < parts[part].length && (mask >> part & 1) != 0; k++) {
                    fault(5, "class a.A" + head(parts, mask, part, k) + others);
                }
            }
        }
    }

    /** The head's parts of that mask; the C k of one part is another one, at '@'. */
    private static String head(String[][] parts, int mask, int part, int k) {
        StringBuilder s = new StringBuilder();
        for (int i = 0; i < parts.length; i++) {
            for (int j = 1; j < parts[i].length && (mask >> i & 1) != 0; j++) {
                s.append(j == 1 ? parts[i][0] : ", ").append(i == part && j == k ? "@a.Z" : parts[i][j]);
            }
        }
        return s.toString();
    }

    /** 'Only' tells names: another library's class of such a name is in it. */
    private static void onlyAcrossLibraries() {
        Check c = new Check();
        c.stand(0, "open class a.A only b.B { } open face a.F only b.B { } class b.B { }");
        made(c, 1, 0, "class b.B is a.A as a.F { }");
        made(c, 1, 5, "class b.C is @a.A { }");
        made(c, 1, 5, "class b.C as @a.F { }");
    }

    /** Of each member 8, then 7, then 6. */
    private static void membersOneByOne() {
        fault(8, "bare class a.A { own bare a.X @f(a.Y p); }");
        fault(7, "bare class a.A { int f() { return 1; } @a.X f() { return 1; } }");
        fault(7, "class a.A { @a.X f(a.Y p) { } }");
        fault(7, "class a.A { int f(a.A p, @a.X q, a.Y r) { } }");
        fault(7, "class a.A { new(a.A p, @a.X q) { } }");
        fault(6, "class a.A { int f(a.A p) { return 1; } a.A @f(a.A q) { return null; } }");
        fault(6, "class a.A { int f(int p) { return 1; } static int @f(int q) { return 1; } }");
        fine("class a.A { int f; int g; int f() { return 1; } int f(int p) { return 1; } int f(a.A p) { return 1; } int f(z.Any p) { return 1; } int f(int p, int q) { return 1; } } class a.B is a.A { int f; int f() { return 2; } }");
        fault(6, "class a.A { int f; static z.Any @f; }");
        fault(6, "class a.A { new(int p) { } new() { } new(a.A p) { } @new(int q) { } }");
        fine("class a.A { new(int p) { } new() { } new(a.A p) { } new(int p, int q) { } start { } start { } }");
        fault(6, "face a.A { int f(); int @f() { return 1; } }");
        // What lacks, or is too much, of a method's BLOCK.
        fault(8, "bare class a.A { bare int @f() { return 1; } }");
        fault(8, "bare class a.A { int @f(); }");
        fault(8, "class a.A { static int @f(); }");
        fault(8, "class a.A { own int @f(); }");
        fault(8, "face a.A { bare int @f() { return 1; } }");
        fault(8, "face a.A { static int @f(); }");
        fault(8, "face a.A { own int @f(); }");
        fault(8, "face a.A { kin int @f() { return 1; } }");
        fault(8, "face a.A { final int @f() { return 1; } }");
        fault(8, "face a.A { static bare int @f(); }");
        fine("face a.A { int f(); bare int g(); open int h(); int i() { return 1; } own int j() { return 1; } static int k() { return 1; } own static int l() { return 1; } open static int n() { return 1; } }");
        fault(8, "face a.A { int @f; }");
        fault(8, "face a.A { open static final int @f; }");
        fault(8, "face a.A { own static final int @f = 1; }");
        fault(8, "face a.A { kin int @f = 1; }");
        fault(8, "face a.A { bare int @f = 1; }");
        fine("face a.A { int f = 1; open int g = 1; static int h = 1; final int i = 1; static final a.A j = null; }");
        fault(8, "bare class a.A { bare int @f; }");
        fault(8, "bare class a.A { static bare int @f(); }");
        fine("bare class a.A { bare int f(); kin bare int g(); open bare int h(); final int i() { return 1; } own final int j() { return 1; } static final int k() { return 1; } }");
    }

    /** 9: what is ABOVE is not own, and open, kin, or of this PACKAGE; no static one of a face. */
    private static void aboveOneByOne() {
        String[] access = {"own ", "", "kin ", "open "};
        for (int up = 0; up < 4; up++) {
            for (int down = 0; down < 4; down++) {
                String same = "class a.P { " + access[up] + "int f() { return 1; } } class a.A is a.P { " + access[down] + "int f() { return 1; } }";
                String other = "open " + same.replace("a.A", "b.A");
                boolean less = down < up;
                nine(less && up > 0, same);
                nine(less && up > 1, other);
                // What is final, static or not, void or not: of what is ABOVE alone.
                nine(less && up > 0 || up > 0, same.replaceFirst("int f", "final int f"));
                nine(less && up > 1 || up > 1, other.replaceFirst("int f", "final int f"));
                nine(less && up > 0 || up > 0, same.replaceFirst("int f", "static int f"));
                nine(less && up > 1 || up > 1, other.replaceFirst("int f\\(\\) \\{ return 1; ", "void f() { "));
                String statics = same.replace("int f", "static int f");
                nine(false, statics);
                nine(false, other.replace("int f", "static int f").replaceFirst("int f\\(\\) \\{ return 1; ", "void f() { "));
            }
        }
        String p = "class a.P { open % f() { } } class a.Q is a.P { open # f() { } } ".replace("{ }", "{ return null; }");
        String[][] results = {{"z.Any", "a.Q", "0"}, {"a.P", "a.Q", "0"}, {"a.Q", "a.Q", "0"}, {"a.Q", "a.P", "9"}, {"a.P", "z.Any", "9"}, {"a.F", "a.Q", "9"}, {"z.Any", "a.F", "0"}, {"a.F", "z.Any", "9"}, {"a.F", "a.G", "0"}, {"a.G", "a.F", "9"}};
        for (String[] r : results) {
            nine(r[2].equals("9"), p.replace("%", r[0]).replace("#", r[1]) + "face a.F { } face a.G as a.F { }");
        }
        nine(true, "class a.P { open int f() { return 1; } } class a.Q is a.P { open a.P f() { return null; } }");
        nine(true, "class a.P { open a.P f() { return null; } } class a.Q is a.P { open int f() { return 1; } }");
        nine(true, "class a.P { open a.P f() { return null; } } class a.Q is a.P { open void f() { } }");
        nine(true, "class a.P { open void f() { } } class a.Q is a.P { open z.Any f() { return null; } }");
        // Of all that is ABOVE, however far.
        nine(true, "class a.P { open final int f() { return 1; } } class a.Q is a.P { } class a.R is a.Q { open int f() { return 1; } }");
        nine(true, "face a.E { int f(); } face a.F as a.E { } class a.P as a.F { open int f() { return 1; } } class a.R is a.P { int f() { return 1; } }");
        nine(true, "face a.E { int f(); } face a.F as a.E { } bare class a.P as a.F { } class a.R is a.P { kin int f() { return 1; } }");
        nine(false, "face a.E { static int f() { return 1; } } class a.P as a.E { own void f() { } } class a.Q as a.E { static z.Any f() { return null; } }");
        nine(true, "face a.E { int f(); } class a.P as a.E { open static int f() { return 1; } }");
        nine(true, "face a.E { int f(); } face a.G as a.E { static int f() { return 1; } }");
        nine(false, "face a.E { own int f() { return 1; } } class a.P as a.E { static void f() { } } face a.G as a.E { void f(); }");
        nine(true, "face a.E { int f(); } face a.G as a.E { own int f() { return 1; } }");
        nine(false, "class a.P { open int f(int p) { return 1; } } class a.Q is a.P { void f() { } void f(a.P p) { } void f(int p, int q) { } }");
    }

    /** The last f of the text is 9, or it is fine. */
    private static void nine(boolean is, String text) {
        int at = text.lastIndexOf(" f(") + 1;
        if (is) {
            fault(9, text.substring(0, at) + "@" + text.substring(at));
        } else {
            fine(text);
        }
    }

    /** A class without maker gets one: of its own ACCESS (open or none), without params. */
    private static void defaultMakers() {
        Check c = fine("open class a.A { int x; start { } } class a.B { } open bare class a.C { } final class a.D { void new1() { } } face a.F { } open class a.E { own new(int p) { } }");
        String[] due = {"int x; open new()", "new()", "open new()", "void new1(); new()", "", "own new(int)"};
        for (int k = 0; k < due.length; k++) {
            Check.due("members", c.members(1, 0, k), due[k]);
        }
        fault(18, "class a.A { new(int p) { } } class a.B { void f() { new @a.A(); } }");
        fault(18, "class a.A { new(int p) { } } class @a.B is a.A { int x = 1; }");
        fault(11, "class a.A { new(int p) { } } class a.B is a.A { int f() { return @y; } }");
    }

    /** For each method neither static, own nor bare, for each one ABOVE, not static, with another RESULT. */
    private static void bridges() {
        String up = "open class a.P { open z.Any f() { return null; } kin z.Any k() { return null; } z.Any n() { return null; } open static z.Any s() { return null; } own z.Any o() { return null; } } ";
        Check c = fine(up + "bare class a.Q is a.P { open bare a.P f(); } class a.R is a.Q { open a.R f() { return this; } } open class b.R is a.P { open b.R f() { return this; } open b.R k() { return this; } b.R n() { return this; } static b.R s() { return null; } b.R o() { return null; } }"
            + " class a.S is b.R { open a.S f() { return this; } a.S n() { return this; } open a.S k() { return this; } }");
        Check.due("bare", c.members(1, 0, 1), "open bare a.P f(); new()");
        Check.due("of both above", c.members(1, 0, 2), "open a.R f(); new(); bridge open a.P f(); bridge open z.Any f()");
        Check.due("another package", c.members(1, 0, 3), "open b.R f(); open b.R k(); b.R n(); static b.R s(); b.R o(); open new(); bridge open z.Any f(); bridge open z.Any k()");
        Check.due("the first again", c.members(1, 0, 4), "open a.S f(); a.S n(); open a.S k(); new(); bridge open b.R f(); bridge open z.Any f(); bridge z.Any n(); bridge open b.R k(); bridge open z.Any k()");
        Check d = fine("face a.F { z.Any f(); } face a.G { a.G f(); } class a.A as a.F, a.G { open a.H f() { return null; } } face a.H as a.G { } class a.B as a.F { open z.Any f() { return null; } }");
        Check.due("faces in order", d.members(1, 0, 2), "open a.H f(); new(); bridge open z.Any f(); bridge open a.G f()");
        Check.due("of the same RESULT none", d.members(1, 0, 4), "open z.Any f(); new()");
        // What calls a BRIDGE's NAME means the method, none of the BRIDGES.
        fine("class a.P { open z.Any f() { return null; } } class a.Q is a.P { open a.Q f() { return f(); } a.Q g(a.Q v) { return v.f(); } }");
        fault(13, "class a.P { open z.Any f() { return null; } } class a.Q is a.P { open a.Q f() { return f(); } a.Q g(a.P v) { return @v.f(); } }");
    }

    /** 3, at the class's NAME, a 13th. */
    private static void bridges13() {
        for (int n = 11; n <= 14; n++) {
            StringBuilder up = new StringBuilder();
            StringBuilder down = new StringBuilder();
            for (int i = 0; i < n; i++) {
                up.append("open z.Any f").append(i).append("() { return null; } ");
                down.append("open a.P f").append(i).append("() { return null; } ");
            }
            String text = "class a.P { " + up + "} class @a.Q is a.P { " + down + "} class a.R { }";
            if (n <= 12) {
                Check c = fine(text.replace("@", ""));
                Check.due("members", c.x.members(1, 0, 1), 2 * n + 1);
                Check.due("the last", c.member(1, 0, 1, 2 * n), "bridge open z.Any f" + (n - 1) + "()");
            } else {
                fault(3, text);
            }
        }
        // One of each NAME, PARAMS and RESULT: faces that tell the same count once.
        StringBuilder faces = new StringBuilder();
        StringBuilder mine = new StringBuilder();
        for (int i = 0; i < 12; i++) {
            faces.append("z.Any f").append(i).append("(); ");
            mine.append("open a.A f").append(i).append("() { return null; } ");
        }
        Check c = fine("face a.F { " + faces + "} face a.G { " + faces + "} class a.A as a.F, a.G { " + mine + "}");
        Check.due("members", c.x.members(1, 0, 2), 25);
    }

    /** 10: of any method of PARENTS or ALL FACES, not static, not own, no BRIDGE, the SELECTED is BARE or a CLASH. */
    private static void owed() {
        fault(10, "face a.F { int g() { return 1; } } face a.G { int g() { return 2; } } class @a.A as a.F, a.G { }");
        fine("face a.F { int g() { return 1; } } face a.G { int g() { return 2; } } face a.H as a.F, a.G { } bare class a.A as a.F, a.G { }");
        fault(10, "bare class a.P { bare int f(); } class @a.A is a.P { static int g() { return 1; } }");
        fine("bare class a.P { bare int f(); } bare class a.A is a.P { } class a.B is a.A { int f() { return 1; } }");
        fault(10, "bare class a.P { bare int f(); bare int g(); } class @a.A is a.P { int f() { return 1; } }");
        fault(10, "bare class a.P { bare z.Any f(); } bare class a.Q is a.P { bare a.Q f(); } class @a.A is a.Q { }");
        fine("bare class a.P { bare z.Any f(); } bare class a.Q is a.P { bare a.Q f(); } class a.A is a.Q { a.A f() { return this; } }");
        fault(10, "bare class a.P { bare z.Any f(); } class a.O { } bare class a.Q is a.P { a.Q f() { return null; } } bare class a.R is a.Q { bare a.Q f(); } class @a.A is a.R { }");
        fine("bare class a.P { bare z.Any f(); } bare class a.Q is a.P { a.Q f() { return null; } } class a.A is a.Q { }");
        // Of another PACKAGE, what has no A can't be OVERRIDDEN.
        fault(10, "open bare class a.P { bare int f(); } class @b.A is a.P { open int f() { return 1; } }");
        fine("open bare class a.P { kin bare int f(); } class b.A is a.P { kin int f() { return 1; } }");
    }

    /** 10 by no BRIDGE: those of two faces, woven each, clash, and nothing is owed. */
    private static void noBridgeIsOwed() {
        Check c = new Check();
        c.stand(4, "open class e.P { } open class e.Q { }");
        String[] faces = {"a.F", "b.G"};
        for (int lib = 0; lib < 2; lib++) {
            c.make(lib, "open face " + faces[lib] + " { z.Any f() { return null; } }");
            c.make(lib, "open face " + faces[lib] + " { e." + "PQ".charAt(lib) + " f() { return null; } }");
            Check.due("woven", c.x.weave(lib, 0, 1), 2);
            Check.due("its members", c.members(lib, 2, 0), "open e." + "PQ".charAt(lib) + " f(); bridge open z.Any f()");
            c.x.pick(lib, 2);
        }
        made(c, 2, 0, "class c.X as a.F, b.G { static void m() { let a.F v = new c.X(); out v.f() == null; } static void n() { let b.G v = new c.X(); out v.f() == null; } }");
        c.x.pick(2, 0);
        Check.due("each by its own", c.run("c.X.m") * 10 + c.run("c.X.n"), 11);
        // What is no BRIDGE clashes with one, and with another that is none.
        c.x.pick(0, 0);
        made(c, 2, 10, "class @c.Y as a.F, b.G { }");
        c.x.pick(1, 0);
        made(c, 2, 10, "class @c.Z as a.F, b.G { }");
        c.x.pick(1, 1);
        made(c, 2, 0, "class c.Y as a.F, b.G { }");
    }

    /** 10 by whatever of PARENTS or ALL FACES, near or far. */
    private static void owedFromFarAbove() {
        fault(10, "bare class a.G { bare int f(); } bare class a.P is a.G { } class @a.A is a.P { }");
        fault(10, "bare class a.G { bare int f(); } bare class a.P is a.G { bare int g(); } bare class a.Q is a.P { } class @a.A is a.Q { int g() { return 1; } }");
        fault(10, "face a.F { int f(); } bare class a.G as a.F { } bare class a.P is a.G { } class @a.A is a.P { }");
        fault(10, "face a.F { int f(); } face a.G as a.F { } face a.H as a.G { } class @a.A as a.H { }");
        fault(10, "face a.E { } face a.F { int f(); } class @a.A as a.E, a.F { }");
        fault(10, "face a.E { } face a.F { int f(); } face a.G { } class @a.A as a.E, a.G, a.F { int g() { return 1; } }");
        fine("bare class a.G { bare int f(); } bare class a.P is a.G { int f() { return 1; } } class a.A is a.P { }");
        fine("face a.F { int f(); } bare class a.G { open int f() { return 1; } } bare class a.P is a.G as a.F { } class a.A is a.P { }");
    }

    /** Static, final, of type int, whose E has only NUMBERS, ( ), + - * < == and NAMES and C.NAMES that mean CONSTANTS known by then. */
    private static void constants() {
        Check c = fine("class a.A { static final int a1 = 1; final int b1 = 1; static int c1 = 1; static final a.A d1 = null; static final int e1; static final int f1 = null == null; static final int g1 = c1; static final int h1 = i1; static final int i1 = 5; "
            + "static final int j1 = j1; static final int k1 = a.A.i1 + a1 * (2 - 4); static final int l1 = e1 + 1; static final int n1 = 1 + m(); static int m() { return 1; } static final int o1 = (k1 < i1) == (1 < 2); }"
            + " class a.B { static final int a1 = a.C.x; static final int b1 = a.A.k1; static final int c1 = a.B.b1 + a.A.a1; } class a.C { static final int x = 9; } class a.D is a.C as a.F { static final int y = x; static final int z = w; int q = x; static int r = a.D.x; } face a.F { int w = 3; int v = a.C.x + w; int u = a.A.m(); z.Any t = null; }");
        Check.due("of one class", c.members(1, 0, 0), "static final int a1=1; final int b1; static int c1; static final a.A d1; static final int e1; static final int f1; static final int g1; static final int h1; static final int i1=5; "
            + "static final int j1; static final int k1=3; static final int l1; static final int n1; static int m(); static final int o1=1; new()");
        Check.due("what is known by then", c.members(1, 0, 1), "static final int a1; static final int b1=3; static final int c1=4; new()");
        Check.due("above", c.members(1, 0, 3), "static final int y=9; static final int z; int q; static int r; new()");
        Check.due("a face's", c.members(1, 0, 4), "open static final int w=3; open static final int v=12; open static final int u; open static final z.Any t");
        Check.due("their uses", c.uses(1, 0, 0), "5 a.A.c1:int; 16 a.A.i1=5; 5 a.A.j1:int; 16 a.A.a1=1; 5 a.A.e1:int; 9 a.A.m()int; 16 a.A.k1=3");
        fault(13, "class a.A { static final int x = @null; }");
        fault(11, "class a.A { static final int x = 1 + @y; }");
        fault(14, "class a.A { final int y = 1; static final int x = 1 + @y; }");
        Check d = fine("class a.A { static final int x = 1; int f(int x) { return x; } int g() { let int y = x; let int x = 2; return x + y; } static int h() { return ((x)); } }");
        Check.due("what a local hides is not asked", d.uses(1, 0, 0), "16 a.A.x=1");
    }

    /** Of other builds, too, when they and their C's are LET. */
    private static void constantsAcross() {
        Check c = new Check();
        c.stand(0, "open class a.A { open static final int x = 3; kin static final int y = 4; static final int z = 5; own static final int w = 6; open static final int v = a.A.u; open static int u; } class a.B { open static final int x = 7; }");
        c.make(1, "class b.B is a.A { static final int p = x + a.A.y + b.B.x; static final int q = v; } class a.C { static final int r = a.B.x * a.A.z; }");
        Check.due("constants", c.members(1, 0, 0), "static final int p=10; static final int q; new()");
        Check.due("constants", c.members(1, 0, 1), "static final int r=35; new()");
        Check.due("uses", c.uses(1, 0, 0), "18 a.A; 16 b.B.x=3; 16 a.A.y=4; 5 b.B.v:int; 2 a.A.new()");
        Check.due("uses", c.uses(1, 0, 1), "16 a.B.x=7; 16 a.A.z=5");
        made(c, 1, 11, "class b.B { static final int p = a.A.@y; }");
        made(c, 1, 11, "class b.B is a.A { static final int p = @z; }");
        made(c, 1, 11, "class a.D { static final int p = a.A.@w; }");
        made(c, 1, 7, "class b.B { static final int p = @a.B.x; }");
        c.x.pick(0, LinkHouse.NONE);
        made(c, 1, 7, "class b.B { static final int p = @a.A.x; }");
    }

    /** Ints of 32 bits. */
    private static void wrapping() {
        Check c = fine("class a.A { static final int top = 999999999 * 2 + 147483649; static final int low = top + 1; static final int under = low - 1; static final int neg = 0 - low; static final int big = 65536 * 65536; static final int half = 65536 * 32768; "
            + "static final int sq = 999999999 * 999999999; static final int lt = low < top; static final int gt = top < low; static final int eq = low == 0 - low; static final int three = 46341 * 46341; static final int minus = 0 - 1; static final int less = minus < 0; }");
        Check.due("members", c.members(1, 0, 0), "static final int top=2147483647; static final int low=-2147483648; static final int under=2147483647; static final int neg=-2147483648; static final int big=0; static final int half=-2147483648; "
            + "static final int sq=808348673; static final int lt=1; static final int gt=0; static final int eq=1; static final int three=-2147479015; static final int minus=-1; static final int less=1; new()");
        Check.due("uses", c.uses(1, 0, 0), "16 a.A.top=2147483647; 16 a.A.low=-2147483648; 16 a.A.minus=-1");
    }

    private static void inMethod(int fault, String statements) {
        fault(fault, "class a.A { int x; static int s; final int e; int f(int p) { " + statements + " return 0; } }");
    }

    private static void fineIn(String statements) {
        fine("class a.A { int x; static int s; final int e; int f(int p) { " + statements + " return 0; } }");
    }

    /** A local from behind its S to the end of the BLOCK (or S of if, while) in which that stands, a param in its member, catch's in its BLOCK. */
    private static void scopes() {
        inMethod(16, "let int @p = 1;");
        inMethod(16, "{ let int @p = 1; }");
        inMethod(16, "try { } catch (z.Ill @p) { }");
        inMethod(16, "let int v = 1; let z.Any @v = null;");
        inMethod(16, "let int v = 1; if (v) { while (v) { let int @v = 2; } }");
        inMethod(16, "let int v = 1; if (v) let int @v = 2;");
        inMethod(16, "let int v = 1; try { let int @v = 2; } catch (z.Ill q) { }");
        inMethod(16, "let int v = 1; try { } catch (z.Ill @v) { }");
        inMethod(16, "try { } catch (z.Ill q) { { let int @q = 2; } }");
        inMethod(11, "let int v = @v + 1;");
        inMethod(11, "out @v; let int v = 1;");
        inMethod(11, "{ let int v = 1; } out @v;");
        inMethod(11, "{ { let int v = 1; } out @v; }");
        inMethod(11, "if (1) let int v = 1; else out @v;");
        inMethod(11, "if (1) let int v = 1; out @v;");
        inMethod(11, "if (1) { } else let int v = 1; out @v;");
        inMethod(11, "while (0) let int v = 1; out @v;");
        inMethod(11, "try { let int v = 1; } catch (z.Ill q) { out @v; }");
        inMethod(11, "try { out @q == null; } catch (z.Ill q) { }");
        inMethod(11, "try { } catch (z.Ill q) { } out @q == null;");
        inMethod(11, "try { } catch (z.Ill q) { let int v = 1; } out @v;");
        inMethod(11, "@v = 1; let int v = 1;");
        fineIn("let int v = 1; v = v + p; { out v; let int w = v; out w; } let int w = v; if (v) let int y = w; else let int y = v; while (0) let int y = 1; let int y = w; out y;");
        fineIn("try { let int v = 1; } catch (z.Ill q) { let int v = 2; } try { let int q = 3; } catch (z.Ill v) { } let int q = 1; let int v = q; out v;");
        fineIn("let z.Any x = null; let int s = 1; x = this; s = 2; this.x = s; a.A.s = this.x; { let int f = 1; f(f); }");
        inMethod(13, "let z.Any x = null; out @x;");
        fine("class a.A { void f(int p) { let int q = p; } void g(int q) { let int p = q; } new(int p) { let int q = p; } start { let int p = 1; } start { let int p = 2; } int p = 1; int q = p; }");
        fault(11, "class a.A { void f(int p) { } void g() { out @p; } }");
        fault(16, "class a.A { void f(int p, int q, int @p) { } }");
        fault(16, "class a.A { new(int p, a.A @p) { } }");
        fault(16, "face a.A { void f(int p, int @p); }");
        fault(16, "bare class a.A { bare void f(int p, int @p); }");
    }

    /** 17: the end of an S can be come to, but of return, throw, a BLOCK one of whose S's can't, an if with else, a try of both parts of which it can't. */
    private static void ends() {
        String[] can = {"", "out 1;", "if (1) return 1;", "while (1) return 1;", "while (1) { }", "if (1) return 1; else out 1;", "if (1) out 1; else return 1;", "if (0) { } else { }", "try { return 1; } catch (z.Ill e) { }", "try { } catch (z.Ill e) { return 1; }",
            "{ }", "{ { } }", "{ if (1) return 1; }", "f();", "let int v = 1;", "if (1) { if (1) return 1; } else throw null;", "while (1) throw null;"};
        for (String s : can) {
            fault(17, "class a.A { int @f() { " + s + " } }");
        }
        String[] not = {"return 1;", "throw null;", "{ return 1; }", "{ { throw null; } }", "if (1) return 1; else return 2;", "if (1) return 1; else throw null;", "if (1) { return 1; } else { throw null; }", "if (0) if (1) return 1; else return 2; else return 3;",
            "try { return 1; } catch (z.Ill e) { return 2; }", "try { throw null; } catch (z.Ill e) { throw e; }", "return 1; out 2;", "out 1; return 1; while (1) { }", "{ return 1; } out 1;", "if (1) return 1; else return 2; out 3;", "{ out 1; { return 1; } out 2; }", "throw null; { }"};
        for (String s : not) {
            fine("class a.A { int f() { " + s + " } a.A g() { " + s.replaceAll("return \\d", "return null") + " } }");
        }
        fine("class a.A { void f() { } void g() { return ; } void h() { while (1) { } } new() { } new(int p) { return ; } start { } }");
        fault(17, "class a.A { void f() { @return null; } }");
        fault(17, "class a.A { void f() { @return f(); } }");
        fault(17, "class a.A { int f() { @return ; } }");
        fault(17, "class a.A { a.A f() { if (1) @return ; return this; } }");
        fault(17, "class a.A { new() { @return this; } }");
        fault(17, "class a.A { new() { @return 1; } }");
        fault(17, "class a.A { start { @return ; } }");
        fault(17, "class a.A { start { if (0) @return 1; } }");
        // At its NAME behind its BLOCK.
        fault(11, "class a.A { int f() { out @y; } }");
        fault(17, "class a.A { int @f() { } int g() { out y; } }");
    }

    /** 15: what stands in front of = is a NAME, e.NAME, C.NAME of a local, param or field; final ones of D alone, where they may be. */
    private static void puts() {
        fineIn("let int v = 1; v = 2; p = 3; x = 4; s = 5; this.x = 6; a.A.s = 7;");
        String[] none = {"1", "null", "this", "f(1)", "(x)", "(p)", "x + 1", "p < 1", "a.A.s + 1", "new a.A()", "(z.Any) null", "this ask a.A", "this.f(1)", "(this.x)", "0 - x"};
        for (String s : none) {
            inMethod(15, "@" + s + " = 1;");
        }
        String fields = "open class a.P { open final int pf; open static final int ps; } class a.A is a.P { final int e; static final int t; static final int k = 1; ";
        String[][] all = {{"15", "void f() { @e = 1; }"}, {"15", "void f() { @this.e = 1; }"}, {"15", "void f() { @t = 1; }"}, {"15", "void f() { @a.A.t = 1; }"}, {"15", "static void f() { @t = 1; }"}, {"0", "new() { e = 1; this.e = 2; new a.A(1).e = 3; } new(int p) { }"},
            {"15", "new() { @t = 1; }"}, {"15", "new() { @a.A.t = 1; }"}, {"0", "start { t = 1; a.A.t = 2; k = 3; }"}, {"15", "start { @new a.A().e = 1; }"}, {"15", "new() { @pf = 1; }"}, {"15", "new() { @this.pf = 1; }"}, {"15", "start { @ps = 1; }"}, {"15", "start { @a.P.ps = 1; }"},
            {"15", "start { @a.A.ps = 1; }"}, {"15", "void f(a.P v) { @v.pf = 1; }"}};
        for (String[] each : all) {
            if (each[0].equals("0")) {
                fine(fields + each[1] + " }");
            } else {
                fault(15, fields + each[1] + " }");
            }
        }
        fault(15, "face a.F { int x = 1; int f() { @x = 2; return 1; } }");
        fault(15, "face a.F { int x = 1; } class a.A as a.F { start { @x = 2; } }");
        fault(15, "class a.A { final int e; } class a.B is a.A { new() { @e = 1; } }");
        fault(15, "class a.A { final int e; } class a.B { new() { @new a.A().e = 1; } }");
        // L as an E, then the E, then 15, then 13.
        inMethod(11, "@y = z;");
        inMethod(11, "1 = @z;");
        inMethod(15, "@1 = null;");
        inMethod(15, "@e = null;");
        inMethod(13, "x = @null;");
        inMethod(13, "x = @this;");
        inMethod(14, "a.A.@x = 1;");
        inMethod(14, "this.@s = 1;");
    }

    /** 19: an E alone that is no call or new. */
    private static void statements() {
        fineIn("f(1); this.f(1); new a.A(); a.A.g(); h(); return 0; } void h() { } static int g() { return 1; } int i() {");
        for (String s : new String[] {"x", "p", "1", "null", "this", "this.x", "a.A.s", "f(1) + 1", "f(1) < 1", "(f(1))", "(new a.A())", "(z.Any) new a.A()", "this ask a.A", "f(1) * 1", "new a.A().x", "0 - f(1)"}) {
            inMethod(19, "@" + s + ";");
        }
        fineIn("new a.A().f(1);");
        fine("face a.F { void d() { } } class a.P { void d() { } int m(int p) { return p; } static int t() { return 1; } } class a.A is a.P as a.F { open void d() { super.d(); a.F.super.d(); d(); this.d(); super.m(1); a.P.t(); t(); new a.P(); new a.P().d(); super.m(2); } }");
        fault(19, "class a.A { void f() { @(f()); } }");
        inMethod(19, "@((f(1)));");
    }

    /** Of a UNIT the last part counts: a call stands alone, a field is put, nothing else. */
    private static void unitsAlone() {
        String o = "class a.A { a.A o; int x; a.A f() { return this; } void g() { % } }";
        for (String s : new String[] {"o.f();", "o.o.f();", "this.f().o.f();", "f().f().f();", "new a.A().o.f();", "o.x = 1;", "o.o.x = 1;", "f().x = 1;", "o.f().o.x = 1;", "new a.A().o = o;", "this.f().x = 1;"}) {
            fine(o.replace("%", s));
        }
        for (String s : new String[] {"o.o;", "f().o;", "o.f().x;", "f().f().o;", "o.f() ask a.A;", "f().f() ask a.A;", "f() ask a.A;", "new a.A().f().o;", "new a.A().o.o;", "(o).o;", "(a.A) f().f();"}) {
            fault(19, o.replace("%", "@" + s));
        }
        fine(o.replace("%", "(o).f(); (o).o.x = 1; (o.o).x = 1;"));
        for (String s : new String[] {"o.f() = o;", "f().f() = o;", "o.o.f() = o;", "o ask a.A = 1;", "o.o ask a.A = 1;", "f() = o;", "(o.o) = o;", "(a.A) o.o = o;", "new a.A() = o;"}) {
            fault(15, o.replace("%", "@" + s));
        }
    }

    /** z.Any and z.Ill are named as others are: z.Any has no FIELD and no method, z.Ill its code. */
    private static void builtInNamed() {
        inMethod(12, "z.Any.@m();");
        inMethod(12, "z.Ill.@m();");
        inMethod(11, "out z.Any.@x;");
        inMethod(11, "z.Any.@x = 1;");
        inMethod(11, "out z.Ill.@x;");
        inMethod(14, "out z.Ill.@code;");
        inMethod(14, "z.Ill.@code = 1;");
        inMethod(13, "out @1 ask z.Any;");
        inMethod(13, "out @p ask z.Ill;");
        inMethod(13, "let z.Any v = (z.Any) @1;");
        inMethod(18, "new @z.Any(1);");
        inMethod(18, "new @z.Ill(null);");
        inMethod(11, "let z.Any v = null; out v.@code;");
        inMethod(12, "let z.Any v = null; v.@f(1);");
        fineIn("let z.Ill v = new z.Ill(); v.code = v.code + 1; out v ask z.Any; let z.Any w = v; out w ask z.Ill; throw (z.Ill) new z.Any();}" + " int g() {");
        // z.Ill FITS z.Any and itself, no class that stands behind them, and not that one's PARENT or FACES.
        String o = "open class a.A is a.P as a.F { void f(z.Ill e, z.Any y) { % } } open class a.P { } face a.F { }";
        fine(o.replace("%", "let z.Any v = e; let z.Ill w = e; let z.Any x = y;"));
        for (String s : new String[] {"let a.P v = @e;", "let a.A v = @e;", "let a.F v = @e;", "let z.Ill v = @y;", "let a.A v = @y;", "let a.P v = @y;", "let a.F v = @y;", "throw @y;", "throw @this;"}) {
            fault(13, o.replace("%", s));
        }
    }

    /** All methods of that NAME of X, its PARENTS, ALL FACES, with as many params, all of whose types the ARGS' types FIT. */
    private static void candidates() {
        String m = "class a.A { int f() { return 1; } int f(int p) { return 2; } int f(int p, int q) { return 3; } int f(int p, int q, int r, int s) { return 4; } ";
        fine(m + "int g() { return f() + f(1) + f(1, 2) + f(1, 2, 3, 4); } }");
        fault(12, m + "int g() { return @f(1, 2, 3); } }");
        fault(12, m + "int g() { return @f(1, 2, 3, 4, 5); } }");
        fault(12, m + "int g() { return @f(null); } }");
        fault(12, m + "int g() { return @f(this, 1); } }");
        fault(12, m + "int g() { return this.@f(1, null); } }");
        // Of a face's static ones those of X itself alone.
        String f = "face a.F { static int s() { return 1; } int d() { return 1; } } face a.G as a.F { % } class a.A as a.G { # } ";
        fine(f.replace("%", "int g() { return a.F.s() + d() + this.d(); }").replace("#", "int h() { return a.F.s() + d() + a.G.super.d(); }"));
        fault(12, f.replace("%", "int g() { return a.G.@s(); }").replace("#", ""));
        fault(12, f.replace("%", "int g() { return @s(); }").replace("#", ""));
        fault(12, f.replace("%", "").replace("#", "int g() { return a.A.@s(); }"));
        fault(12, f.replace("%", "").replace("#", "int g() { return this.@s(); }"));
        // Static ones of classes go down to heirs.
        fine("class a.P { static int s() { return 1; } } class a.A is a.P { int g() { return s() + a.A.s() + a.P.s(); } }");
        // Those of the same PARAMS: the first one alone.
        fine("class a.P { open z.Any f() { return null; } } class a.A is a.P { open a.A f() { return this; } a.A g() { return f(); } z.Any h() { return super.f(); } }");
        fault(13, "class a.P { open z.Any f() { return null; } } class a.A is a.P { open a.A f() { return this; } a.A h() { return @super.f(); } }");
        // What is not LET is none of them.
        fine("class a.P { own int f(a.P p) { return 1; } int f(z.Any p) { return 2; } } class a.A is a.P { int g() { return f(this); } }");
        fault(12, "class a.P { int f(a.P p) { return 1; } int f(a.F p) { return 2; } } face a.F { } class a.A is a.P as a.F { int g() { return @f(this); } }");
        fine("class a.P { int f(a.P p) { return 1; } own int f(a.F p) { return 2; } } face a.F { } class a.A is a.P as a.F { int g() { return f(this); } }");
        // C.super: C one of D's FACES itself, and what is meant not bare.
        fault(12, "face a.E { int d() { return 1; } } face a.F as a.E { } class a.A as a.F { int g() { return a.E.super.@d(); } }");
        fine("face a.E { int d() { return 1; } } face a.F as a.E { } class a.A as a.F { int g() { return a.F.super.d(); } }");
        fault(12, "face a.E { int d() { return 1; } } class a.P as a.E { } class a.A is a.P { int g() { return a.E.super.@d(); } }");
        fault(12, "class a.P { int d() { return 1; } } class a.A is a.P { int g() { return a.P.super.@d(); } }");
        fault(12, "face a.E { int d(); } class a.A as a.E { open int d() { return a.E.super.@d(); } }");
        fault(12, "bare class a.P { bare int d(); } class a.A is a.P { int d() { return super.@d(); } }");
        fault(12, "class a.A { int d() { return super.@d(); } }");
        fault(12, "face a.E { int d() { return 1; } } face a.F as a.E { int d() { return super.@d(); } }");
    }

    /** 18: super( ) is the first S of a maker's BLOCK, or it is done by itself. */
    private static void superMakers() {
        fine("class a.A { new() { super(); } new(int p) { } } class a.B is a.A { new() { super(1); } new(int p) { super(); out p; } new(a.A p) { out 1; } }");
        fault(18, "class a.A { new() { out 1; @super(); } }");
        fault(18, "class a.A { new() { super(); @super(); } }");
        fault(18, "class a.A { new() { { @super(); } } }");
        fault(18, "class a.A { new() { if (1) @super(); } }");
        fault(18, "class a.A { void f() { @super(); } }");
        fault(18, "class a.A { start { @super(); } }");
        fault(18, "class a.A { new() { @super(1); } }");
        fault(18, "class a.A is z.Ill { new() { @super(1); } }");
        fault(11, "class a.A { new() { super(@y); } }");
        fault(11, "class a.A { void f() { super(@y); } }");
        String p = "class a.P { new(int p) { } } ";
        fault(18, p + "class @a.A is a.P { }");
        fault(18, p + "class a.A is a.P { @new() { } }");
        fault(18, p + "class a.A is a.P { open @new() { out 1; super(1); } }");
        fault(18, p + "class a.A is a.P { @new() { { super(1); } } }");
        fine(p + "class a.A is a.P { new() { super(1); } }");
        fault(18, "class a.P { new(a.P p) { } new(a.F p) { } } face a.F { } class a.A is a.P { new() { @super(null); } }");
        fault(18, "class a.P { own new() { } } class @a.A is a.P { }");
        // PARAMS (16) ahead of super( ), that ahead of the BLOCK; a default maker behind all.
        fault(16, p + "class a.A is a.P { new(int q, int @q) { } }");
        fault(18, p + "class a.A is a.P { @new() { out y; } }");
        fault(11, p + "class a.A is a.P { int f() { return @y; } }");
        fault(18, p + "class @a.A is a.P { } class a.B { int f() { return y; } }");
        fault(11, p + "class a.B { int f() { return @y; } } class a.A is a.P { }");
    }

    /** USES of a class, each once; another class has its own. */
    private static void usesOnce() {
        Check c = fine("class a.A { int x; void f(a.A v) { v.x = v.x; x = x; f(v); this.f(this); new a.A(); new a.A(); out v ask a.A; out v ask a.A; } void g(a.A v) { v.x = v.x; g(v); new a.A(); } } class a.B { void f(a.A v) { out v.x; out v.x; } }");
        Check.due("uses", c.uses(1, 0, 0), "3 a.A.x:int; 4 a.A.x:int; 7 a.A.f(a.A)void; 1 a.A; 2 a.A.new(); 14 a.A; 7 a.A.g(a.A)void");
        Check.due("uses", c.uses(1, 0, 1), "3 a.A.x:int");
        Check.due("in all", c.x.uses(1, 0), 8);
        Check.due("the last's class", c.x.use(1, 0, 7, 1), 1);
        Check.due("behind it", c.x.use(1, 0, 8, 1), LinkHouse.BAD);
        Check.due("what FITS by itself, null, z.Any", fine("class a.A { z.Any x = this; a.A y = this; a.A z = null; void f(z.Any p) { f(this); f(null); let z.Any v = y; v = z; } z.Any g() { return this; } }").uses(1, 0, 0),
            "7 a.A.f(z.Any)void; 3 a.A.y:a.A; 3 a.A.z:a.A");
    }

    /** Of a BRIDGE its call and the 17 behind it, if the RESULT is another one but z.Any. */
    private static void usesOfBridges() {
        Check c = fine("class a.P { open z.Any f() { return null; } open a.P g() { return null; } } class a.Q is a.P { open a.Q f() { return this; } open a.Q g() { return this; } } face a.F { a.F g(); } face a.G as a.F { a.G g(); } class a.H as a.G { open a.H g() { return null; } }");
        Check.due("uses", c.uses(1, 0, 1), "18 a.P; 2 a.P.new(); 7 a.Q.f()a.Q; 7 a.Q.g()a.Q; 17 a.Q>a.P");
        Check.due("bare ones have none", c.uses(1, 0, 3), "19 a.F");
        Check.due("uses", c.uses(1, 0, 4), "19 a.G; 7 a.H.g()a.H; 17 a.H>a.G; 17 a.H>a.F");
    }

    /** 17 by let, by =, by each of ARGS, by return, by throw, each alone. */
    private static void usesFitByEach() {
        String world = "class a.P { } class a.Q is a.P { } class a.E is z.Ill { } class a.A { a.P p; static a.P s; static void f(a.P p, z.Any q, a.P r) { } new() { } new(a.P p) { } ";
        String[][] all = {{"void m(a.Q v) { let a.P w = v; }", "17 a.Q>a.P"}, {"a.P m(a.Q v) { return v; }", "17 a.Q>a.P"}, {"void m(a.Q v) { p = v; }", "17 a.Q>a.P; 4 a.A.p:a.P"}, {"void m(a.Q v) { a.A.s = v; }", "17 a.Q>a.P; 6 a.A.s:a.P"}, {"void m(a.P w, a.Q v) { w = v; }", "17 a.Q>a.P"},
            {"void m(a.Q v) { f(null, v, v); }", "17 a.Q>a.P; 9 a.A.f(a.P,z.Any,a.P)void"}, {"void m(a.Q v, a.P w) { f(w, v, w); }", "9 a.A.f(a.P,z.Any,a.P)void"}, {"void m(a.Q v) { new a.A(v); }", "1 a.A; 17 a.Q>a.P; 2 a.A.new(a.P)"}, {"void m(a.E e) { throw e; }", "17 a.E>z.Ill"}, {"void m(z.Ill e) { throw e; }", ""},
            {"z.Any m(a.Q v) { return v; }", ""}, {"a.Q m(a.Q v) { return v; }", ""}, {"a.P m() { return null; }", ""}, {"a.P m(a.Q v) { return (a.P) v; }", "13 a.P"}, {"int m(a.Q v, a.P w) { return v == w; }", ""}, {"a.P k = new a.Q();", "1 a.Q; 2 a.Q.new(); 17 a.Q>a.P"}, {"void m(a.Q v) { p = (v); }", "17 a.Q>a.P; 4 a.A.p:a.P"}};
        for (String[] each : all) {
            Check.due(each[0], fine(world + each[0] + " }").uses(1, 0, 3), each[1]);
        }
        Check.due("by super( )", fine("class a.P { new(a.P p) { } } class a.Q is a.P { new(a.Q q) { super(q); } }").uses(1, 0, 1), "18 a.P; 17 a.Q>a.P; 2 a.P.new(a.P)");
    }

    /** NAME and PARAMS are the same only if each of the types is. */
    private static void eachParamCounts() {
        String[] types = {"int", "int", "int", "int"};
        for (int n = 1; n <= 4; n++) {
            for (int other = 0; other < n; other++) {
                String same = params(n, types, -1);
                String not = params(n, types, other);
                fine("class a.A { void f(" + same + ") { } void f(" + not + ") { } new(" + same + ") { } new(" + not + ") { } }");
                fault(6, "class a.A { void f(" + same + ") { } int @f(" + same + ") { return 1; } }");
                fault(6, "class a.A { new(" + same + ") { } @new(" + same + ") { } }");
                fine("class a.P { open void f(" + same + ") { } } class a.A is a.P { int f(" + not + ") { return 1; } }");
                fault(9, "class a.P { open void f(" + same + ") { } } class a.A is a.P { int @f(" + same + ") { return 1; } }");
                fault(10, "face a.F { void f(" + same + "); } class @a.A as a.F { open void f(" + not + ") { } }");
                fine("face a.F { void f(" + same + "); } class a.A as a.F { open void f(" + same + ") { } }");
                String args = same.replaceAll("int \\w", "1");
                String mixed = not.replaceAll("int \\w", "1").replaceAll("z.Any \\w", "this");
                Check c = fine("class a.A { void f(" + same + ") { } void f(" + not + ") { } void g() { f(" + args + "); f(" + mixed + "); } }");
                Check.due("uses", c.uses(1, 0, 0), "7 a.A.f(" + same.replaceAll(" [p-s]", "").replace(", ", ",") + ")void; 7 a.A.f(" + not.replaceAll(" [p-s]", "").replace(", ", ",") + ")void");
                // In THE WORLD: another PARAMS is another method, another maker.
                Check w = new Check();
                w.stand(0, "open class a.A { open void f(" + same + ") { } open new(" + same + ") { } }");
                w.stand(1, "class b.B { void g(a.A v) { v.f(" + args + "); new a.A(" + args + "); } }");
                w.make(0, "open class a.A { open void f(" + not + ") { } open new(" + not + ") { } }");
                w.x.pick(0, 1);
                Check.due("both are broken", w.x.broken(), 2);
                Check.due("no method", w.x.brokenAt(0, 2) * 10 + w.x.brokenAt(1, 2), 55);
                Check.due("differ", w.x.differ(0, 0, 1), 4);
                Check.due("gone and new", w.changes(), "30 0 0 0 -; 40 0 0 - 0; 50 0 0 1 -; 54 0 0 - 1");
            }
        }
    }

    private static String params(int n, String[] types, int other) {
        StringBuilder s = new StringBuilder();
        for (int i = 0; i < n; i++) {
            s.append(i == 0 ? "" : ", ").append(i == other ? "z.Any" : types[i]).append(" ").append((char) ('p' + i));
        }
        return s.toString();
    }

    private static void emptyBuild() {
        Check c = new Check();
        Check.due("of nothing", c.make(0, ""), 0);
        Check.due("classes", c.x.classes(0, 0), 0);
        Check.due("uses", c.x.uses(0, 0), 0);
        Check.due("text", c.x.text(0, 0), 0);
        Check.due("members", c.x.members(0, 0, 0), LinkHouse.BAD);
        Check.due("shape", c.x.shape(0, 0, 0, LinkHouse.NONE), LinkHouse.BAD);
        Check.due("use", c.x.use(0, 0, 0, 0), LinkHouse.BAD);
        Check.due("meet", c.x.meet(0, 0, 0), LinkHouse.BAD);
        Check.due("pick", c.x.pick(0, 0), LinkHouse.NONE);
        Check.due("picked", c.x.picked(0), 0);
        Check.due("classes of THE WORLD", c.x.told(5), 2);
        Check.due("broken", c.x.broken(), 0);
        Check.due("stale", c.x.stale(), 0);
        Check.due("choose", c.x.choose(), 1);
        Check.due("differ", c.x.differ(0, 0, 0), 0);
        Check.due("word", c.x.word(0, 0, 0), 0);
        Check.due("weave", c.x.weave(0, 0, 0), LinkHouse.NONE);
    }

    /** All that can be asked of a build, and what its c.M.m does. */
    private static String all(Check c, int lib, int build) {
        StringBuilder s = new StringBuilder();
        for (int k = 0; k < c.x.classes(lib, build); k++) {
            s.append(c.head(lib, build, k)).append(" {").append(c.members(lib, build, k)).append("} ").append(c.uses(lib, build, k)).append('\n');
        }
        s.append(c.x.uses(lib, build)).append(' ').append(c.x.text(lib, build)).append(' ').append(c.x.differ(lib, build, build));
        c.x.pick(lib, build);
        s.append(' ').append(c.x.broken()).append(' ').append(c.x.stale()).append(' ').append(c.run("c.M.m"));
        return s.append(' ').append(c.x.value()).append(' ').append(c.x.told(0)).append(' ').append(c.numbers()).append(' ').append(c.events()).toString();
    }

    /** Of a text with a FAULT, and of a weave() that heals nothing, nothing is left in the build that is made next. */
    private static void behindWhatWasNotKept() {
        String[] texts = {
            "class c.M { static void m() { out new c.B().f(1, null); out new c.B().x; out c.B.k; } } open bare class c.A { open final int x = 3; bare int f(int p, z.Any q); open c.A g() { return this; } } class c.B is c.A { int f(int p, z.Any q) { return p; } open c.B g() { return null; } own static int j; static int k; }",
            "open bare class c.D only c.E { static final int k = 7; own static final int m(int p, int q, int r, int s) { let int t = p; return t; } open bare int n(); open final int o() { return 1; } new(int p) { super(); } start { j = 1; } static int j; } final class c.E is c.D as c.F in c.M { new() { super(1); } open int n() { return 4; } } face c.F { static void v() { } int w() { return 5; } } class c.M with c.E { static void m() { out c.E.k + c.E.j; out new c.E().n() + new c.E().o() + new c.E().w(); } }",
            "face c.F { z.Any f(); } face c.G as c.F { c.G f(); int x = 2; static int s() { return x; } } class c.M as c.G { open c.M f() { return this; } static void m() { let c.F v = new c.M(); out v.f() == v; out c.G.s(); out x; } } class c.N { } class c.O { int a; static int b; static final int c = 1; c.O d; own int e; }",
            "class c.M { int a = 1; int b = a + 1; static int c = 4; start { c = c + 1; } static int d = c * 2; new(int p) { b = b + p; } static void m() { let c.M v = new c.M(5); out v.a; out v.b; out c; out d; try { throw new c.X(); } catch (z.Ill e) { out e.code; } } } class c.X is z.Ill { }",
            "class c.M { static void m() { out 1; } }", "class c.A { } class c.B { } class c.C { } class c.D { } class c.E { } class c.F { } class c.G { } class c.H { } class c.I { } class c.J { } class c.K { } class c.M { static int m() { return 6; } }",
        };
        for (String text : texts) {
            fine(text);
            Check fresh = new Check();
            fresh.make(0, texts[0]);
            Check.due("made", fresh.make(0, text), 1);
            String due = all(fresh, 0, 1);
            for (String other : texts) {
                for (String more : new String[] {"class a.Z { int f() { } }", "class a.Z { a.Y y; }", "class a.Z { void f() { a.Y.f(); } }", "class z.Z { }", "class a.Z {"}) {
                    Check c = new Check();
                    c.make(0, texts[0]);
                    Check.due("not kept", c.make(0, other + more) <= -10 ? 1 : 0, 1);
                    Check.due("not kept", c.make(0, more + other) <= -10 ? 1 : 0, 1);
                    Check.due("made", c.make(0, text), 1);
                    Check.due("behind " + more + " of " + other, all(c, 0, 1), due);
                }
                Check c = new Check();
                c.make(0, texts[0]);
                c.make(1, other);
                Check.due("nothing is healed", c.x.weave(1, 0, 0), LinkHouse.NONE);
                Check.due("made", c.make(0, text), 1);
                Check.due("behind a weave of " + other, all(c, 0, 1), due);
            }
        }
    }
}
