/** Promises 26 to 29: differ, change, word, weave. */
public final class DifferTest {
    public static void main(String[] args) {
        heads();
        fields();
        methods();
        makersAndStarts();
        words();
        answers();
        weaves();
        wovenFull();
        Check.end("DifferTest");
    }

    /** Two builds of library 0 in a world with some classes. */
    private static Check two(String a, String b) {
        Check c = new Check();
        c.stand(4, "open class e.P { } open class e.Q is e.P { } open face e.F { } open face e.G { } open face e.H { } ");
        Check.due(a, c.make(0, a), 0);
        Check.due(b, c.make(0, b), 1);
        return c;
    }

    private static void differs(String a, String b, String due, int word) {
        Check c = two(a, b);
        int n = c.x.differ(0, 0, 1);
        Check.due(a + " / " + b, c.changes(), due);
        Check.due("how many of " + due, n, due.isEmpty() ? 0 : due.split("; ").length);
        Check.due("word of " + due, c.x.word(0, 0, 1), word);
    }

    private static void heads() {
        differs("class a.A { }", "class a.A { }", "", 0);
        differs("class a.A { } class a.B { }", "class a.B { }", "1 0 - - -", 3);
        differs("class a.B { }", "class a.A { } class a.B { }", "70 - 0 - -", 2);
        differs("class a.A { int x; }", "open face a.A { }", "2 0 0 - -", 3);
        differs("face a.A { int x = 1; }", "class a.A { }", "2 0 0 - -", 3);
        differs("open class a.A { new() { } }", "class a.A { new() { } }", "3 0 0 - -", 3);
        differs("class a.A { new() { } }", "open class a.A { new() { } }", "4 0 0 - -", 2);
        differs("open class a.A { }", "class a.A { }", "3 0 0 - -; 51 0 0 0 0", 3);
        differs("class a.B { } class a.A { }", "final class a.A { } class a.B { }", "5 1 0 - -", 3);
        differs("final class a.A { }", "class a.A { }", "6 0 0 - -", 2);
        differs("class a.A { }", "bare class a.A { }", "7 0 0 - -", 3);
        differs("bare class a.A { }", "class a.A { }", "8 0 0 - -", 2);
        differs("bare class a.A { }", "final class a.A { }", "5 0 0 - -; 8 0 0 - -", 3);
        differs("class a.A is e.P { }", "class a.A is e.Q { }", "9 0 0 - -", 3);
        differs("class a.A is z.Any { }", "class a.A { }", "", 0);
        differs("class a.A as e.F, e.G { }", "class a.A as e.H, e.G { }", "10 0 0 - -; 11 0 0 - -", 3);
        differs("class a.A as e.F, e.G { }", "class a.A as e.G, e.F { }", "", 0);
        differs("class a.A { }", "class a.A as e.G, e.F { }", "11 0 0 - -; 11 0 0 - -", 2);
        differs("class a.A in a.B { } class a.B with a.A { }", "class a.A { } class a.B { }", "12 0 0 - -", 2);
        differs("class a.A { } class a.B { }", "class a.A in a.B { } class a.B with a.A { }", "12 0 0 - -", 2);
        differs("class a.A only a.A { }", "class a.A { }", "14 0 0 - -", 2);
        differs("class a.A { }", "class a.A only a.A { }", "13 0 0 - -", 3);
        differs("class a.A only a.A, a.B { } class a.B { }", "class a.A only a.B { } class a.B { }", "13 0 0 - -", 3);
        differs("class a.A only a.A, a.B { } class a.B { }", "class a.A only a.B, a.A { } class a.B { }", "14 0 0 - -", 2);
        differs("class a.A only a.A { } class a.B { }", "class a.A only a.A, a.B { } class a.B { }", "14 0 0 - -", 2);
        differs("class a.A only a.A { }", "class a.A only a.A, a.A { }", "14 0 0 - -", 2);
    }

    private static void fields() {
        differs("class a.A { int x; int y; }", "class a.A { int y; int z; }", "20 0 0 0 -; 28 0 0 - 1", 3);
        differs("class a.A { int x; }", "class a.A { e.P x; }", "21 0 0 0 0", 3);
        differs("class a.A { int x; }", "class a.A { static int x; }", "22 0 0 0 0", 3);
        differs("class a.A { static int x; }", "class a.A { int x; }", "22 0 0 0 0", 3);
        differs("class a.A { open static int x; }", "class a.A { final e.P x; }", "21 0 0 0 0; 22 0 0 0 0", 3);
        differs("class a.A { int x; }", "class a.A { final int x; }", "23 0 0 0 0", 3);
        differs("class a.A { final int x; }", "class a.A { int x; }", "24 0 0 0 0", 2);
        differs("class a.A { kin int x; }", "class a.A { int x; }", "25 0 0 0 0", 3);
        differs("class a.A { own int x; }", "class a.A { open int x; }", "26 0 0 0 0", 2);
        differs("class a.A { static final int x = 1; }", "class a.A { static final int x = 2; }", "27 0 0 0 0", 2);
        differs("class a.A { static final int x = 1 + 1; }", "class a.A { static final int x = 2; }", "", 0);
        differs("class a.A { static final int x = 1; }", "class a.A { static final int x; }", "27 0 0 0 0", 2);
        differs("class a.A { static int x = 1; }", "class a.A { open static final int x = 1; }", "23 0 0 0 0; 26 0 0 0 0; 27 0 0 0 0; 60 0 0 - -", 3);
        differs("class a.A { int x; void x() { } }", "class a.A { void x() { } int x; }", "", 0);
    }

    private static void methods() {
        differs("class a.A { int f() { return 1; } int f(int p) { return 1; } }", "class a.A { int f(int q) { return 1; } int f(e.P p) { return 1; } }",
            "30 0 0 0 -; 40 0 0 - 1", 3);
        differs("bare class a.A { }", "bare class a.A { bare int f(); int g() { return 1; } }", "41 0 0 - 0; 40 0 0 - 1", 3);
        differs("face a.A { }", "face a.A { int f(); int g() { return 1; } }", "41 0 0 - 0; 40 0 0 - 1", 3);
        differs("class a.A { int f() { return 1; } }", "class a.A { e.P f() { return null; } }", "31 0 0 0 0", 3);
        differs("class a.A { int f() { return 1; } }", "class a.A { open static void f() { } }", "31 0 0 0 0; 32 0 0 0 0", 3);
        differs("class a.A { static int f() { return 1; } }", "class a.A { final int f() { return 1; } }", "32 0 0 0 0", 3);
        differs("class a.A { int f() { return 1; } }", "class a.A { final int f() { return 2; } }", "33 0 0 0 0; 39 0 0 0 0", 3);
        differs("class a.A { final int f() { return 1; } }", "class a.A { int f() { return 1; } }", "34 0 0 0 0", 2);
        differs("bare class a.A { int f() { return 1; } }", "bare class a.A { bare int f(); }", "35 0 0 0 0", 3);
        differs("face a.A { int f(); }", "face a.A { int f() { return 1; } }", "36 0 0 0 0", 2);
        differs("class a.A { open int f() { return 1; } }", "class a.A { own int f() { return 1; } }", "37 0 0 0 0", 3);
        differs("class a.A { int f() { return 1; } }", "class a.A { kin int f() { return 1; } }", "38 0 0 0 0", 2);
        differs("class a.A { int f(int p) { return 1; } }", "class a.A { int f(int q) {return\n1;} }", "", 0);
        differs("class a.A { int f() { return 1; } }", "class a.A { int f() { return 01; } }", "39 0 0 0 0", 1);
        differs("class a.A { int f() { return 1; } }", "class a.A { int f() { return (1); } }", "39 0 0 0 0", 1);
        differs("class a.A { int x; e.P f() { return null; } } class a.B is a.A { e.Q f() { return null; } }",
            "class a.A { int x; e.Q f() { return null; } } class a.B is a.A { e.Q f() { return null; } }", "31 0 0 1 1", 3);
    }

    private static void makersAndStarts() {
        differs("class a.A { new() { } new(int p) { } }", "class a.A { new(e.P p) { } new(int q) { } }", "50 0 0 0 -; 54 0 0 - 0", 3);
        differs("class a.A { new() { } }", "class a.A { open new() { } }", "52 0 0 0 0", 2);
        differs("class a.A { open new() { } }", "class a.A { kin new() { out 1; } }", "51 0 0 0 0; 53 0 0 0 0", 3);
        differs("class a.A { }", "class a.A { new() { } }", "", 0);
        differs("class a.A { new() { out 1; } }", "class a.A { }", "53 0 0 0 0", 1);
        differs("class a.A { int x; }", "class a.A { int x; new() { super(); } }", "53 0 0 1 1", 1);
        differs("class a.A { }", "class a.A { new(int p) { } }", "50 0 0 0 -; 54 0 0 - 0", 3);
        differs("class a.A { int x = 1; }", "class a.A { int x = 2; }", "60 0 0 - -", 1);
        differs("class a.A { int x = 1; }", "class a.A { int x; }", "60 0 0 - -", 1);
        differs("class a.A { int x = 1; static int y = 2; start { out 3; } }", "class a.A { static int x1 = 1; int y1 = 2; start { out 3; } }",
            "20 0 0 0 -; 20 0 0 1 -; 28 0 0 - 0; 28 0 0 - 1", 3);
        differs("class a.A { start { } int x = 1; }", "class a.A { int x = 1; start { } }", "60 0 0 - -", 1);
        differs("class a.A { start { } }", "class a.A { }", "60 0 0 - -", 1);
        differs("class a.A { static final int x = 1; static final e.P y = null; }", "class a.A { static final int x = 01; static final e.P y = (e.P) null; }", "60 0 0 - -", 1);
        differs("class a.B { } class a.A { int x = 1; }", "class a.A { int x = 2; } class a.C { } class a.B { start { } }", "60 0 2 - -; 60 1 0 - -; 70 - 1 - -", 2);
    }

    private static void words() {
        differs("class a.A { start { } static final int x = 1; }", "class a.A { static final int x = 2; }", "27 0 0 0 0; 60 0 0 - -", 2);
        Check c = two("class a.A { int x; }", "class a.A { }");
        Check.due("word", c.x.word(0, 0, 1), 3);
        Check.due("word the other way round", c.x.word(0, 1, 0), 2);
        Check.due("word of one", c.x.word(0, 1, 1), 0);
        Check.due("word tells no differences", c.x.change(0, 0), LinkHouse.BAD);
        Check.due("word", c.x.word(0, 2, 0), LinkHouse.BAD);
        Check.due("word", c.x.word(0, 0, -1), LinkHouse.BAD);
        Check.due("word", c.x.word(5, 0, 0), LinkHouse.BAD);
    }

    private static void answers() {
        Check c = two("class a.A { int x; }", "class a.A { int y; }");
        Check.due("differ", c.x.differ(0, 0, 1), 2);
        Check.due("differ", c.x.differ(0, 0, 2), LinkHouse.BAD);
        Check.due("differ", c.x.differ(0, -1, 0), LinkHouse.BAD);
        Check.due("differ", c.x.differ(-1, 0, 0), LinkHouse.BAD);
        Check.due("differ", c.x.differ(1, 0, 0), LinkHouse.BAD);
        c.x.word(0, 1, 0);
        Check.due("refused ones and word leave it", c.changes(), "20 0 0 0 -; 28 0 0 - 0");
        Check.due("change", c.x.change(2, 0), LinkHouse.BAD);
        Check.due("change", c.x.change(-1, 0), LinkHouse.BAD);
        Check.due("change", c.x.change(0, 5), LinkHouse.BAD);
        Check.due("change", c.x.change(0, -1), LinkHouse.BAD);
        Check.due("none", c.x.change(0, 4), LinkHouse.NONE);
        Check.due("differ", c.x.differ(0, 1, 1), 0);
        Check.due("change", c.x.change(0, 0), LinkHouse.BAD);
    }

    private static final String OLD = "open class a.A { open e.P f(int p) { return null; } open static z.Any g() { return null; } own e.P h() { return null; } open int i() { return 1; } "
        + "open e.Q j() { return null; } open e.P k() { return null; } open e.P l() { return null; } } open face a.F { e.P m(); e.P n(); } class a.S { e.P o() { return null; } } face a.T { e.P o(); }";
    private static final String NEW = "open class a.A { open e.Q f(int q) { return null; } kin static a.A g() { return null; } open e.Q h() { return null; } open e.P i() { return null; } "
        + "open e.P j() { return null; } open static e.Q k() { return null; } own e.Q l() { return null; } } open face a.F { e.Q m() { return null; } e.Q n(); } face a.S { e.Q o() { return null; } } class a.T { e.Q o() { return null; } }";

    private static void weaves() {
        Check c = two(OLD, NEW);
        c.x.pick(0, 0);
        c.stand(1, "class c.M { static void r() { let a.A v = new a.A(); out v.f(3) == null; out a.A.g() == null; } }");
        c.x.pick(0, 1);
        Check.due("broken", c.x.broken(), 2);
        c.tape("left");
        Check.due("weave", c.x.weave(0, 0, 1), 2);
        Check.due("the tape stays", c.x.told(6), 4);
        Check.due("builds", c.x.builds(0), 3);
        Check.due("its members", c.members(0, 2, 0), c.members(0, 1, 0) + "; bridge open e.P f(int); bridge kin static z.Any g()");
        Check.due("its members", c.members(0, 2, 1), "open e.Q m(); open bare e.Q n(); bridge open e.P m()");
        Check.due("its members", c.members(0, 2, 2), "open e.Q o()");
        Check.due("its uses", c.uses(0, 2, 0), "7 a.A.f(int)e.Q; 17 e.Q>e.P; 9 a.A.g()a.A");
        Check.due("its uses", c.uses(0, 2, 1), "8 a.F.m()e.Q; 17 e.Q>e.P");
        Check.due("b's stay", c.uses(0, 1, 0), "");
        Check.due("no differences to b", c.x.differ(0, 1, 2), 0);
        Check.due("as many as b has", c.x.differ(0, 0, 2), c.x.differ(0, 0, 1));
        c.x.pick(0, 2);
        Check.due("healed but for what is kin", c.x.broken(), 1);
        Check.due("it is not LET", c.x.brokenAt(0, 2), 2);
        c.run("c.M.r");
        Check.due("it runs up to that", c.numbers(), "1");
        Check.due("steps with the bridge", c.x.told(0), 8);
        Check.due("nothing to be healed", c.x.weave(0, 0, 2), LinkHouse.NONE);
        Check.due("nothing to be healed", c.x.weave(0, 1, 1), LinkHouse.NONE);
        Check.due("no build", c.x.weave(0, 0, 3), LinkHouse.BAD);
        Check.due("no build", c.x.weave(0, -1, 0), LinkHouse.BAD);
        Check.due("no library", c.x.weave(5, 0, 0), LinkHouse.BAD);
        c.x.pick(4, LinkHouse.NONE);
        Check.due("in the world as it is", c.x.weave(0, 0, 1), 3);
        Check.due("only what is there fits", c.members(0, 3, 0), c.members(0, 1, 0) + "; bridge kin static z.Any g()");
        Check d = two("open face a.F { z.Any f() { return null; } e.F g() { return null; } }", "open face a.F { e.F f() { return null; } a.F g() { return null; } }");
        Check.due("a face fits z.Any", d.x.weave(0, 0, 1), 2);
        Check.due("its members", d.members(0, 2, 0), "open e.F f(); open a.F g(); bridge open z.Any f()");
        Check.due("its uses", d.uses(0, 2, 0), "8 a.F.f()e.F");
    }

    private static void wovenFull() {
        String old = "";
        String now = "";
        for (int i = 0; i < 13; i++) {
            old += "open z.Any f" + i + "() { return null; } ";
            now += "open a.A f" + i + "() { return null; } ";
        }
        Check c = new Check();
        c.make(0, "class a.A { " + old + "}");
        c.make(0, "class a.A { " + now + "}");
        Check.due("a 13th bridge", c.x.weave(0, 0, 1), LinkHouse.FULL);
        Check.due("changes nothing", c.x.builds(0), 2);
        Check d = new Check();
        d.make(0, "class a.A { " + old.substring(0, old.indexOf("open z.Any f12")) + "}");
        d.make(0, "class a.A { " + now + "}");
        for (int i = 0; i < 5; i++) {
            Check.due("twelve bridges", d.x.weave(0, 0, 1), 2 + i);
        }
        Check.due("its members", d.x.members(0, 2, 0), 13 + 1 + 12);
        d.make(0, "");
        Check.due("eight builds", d.x.weave(0, 0, 1), LinkHouse.FULL);
        Check.due("nothing healed ahead of that", d.x.weave(0, 1, 0), LinkHouse.NONE);
    }
}
