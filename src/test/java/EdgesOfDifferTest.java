/** Promises 26 to 29 at their bounds: each DIFFERENCE alone, what tells none, the version word, what is woven and what is not. */
public final class EdgesOfDifferTest {
    private static final String WORLD = "open class e.P { } open class e.Q is e.P { } open face e.F { } open face e.G as e.F { } open face e.H { } open class e.I as e.G { } final class e.L { }";

    public static void main(String[] args) {
        eachAlone();
        noneOfIt();
        nothingMoreOfIt();
        order();
        sameTokens();
        makersAlone();
        greatest();
        changes();
        wovenOrNot();
        wovenResults();
        wovenTwice();
        wovenBridges();
        wovenClasses();
        wovenFull();
        wovenWorld();
        wovenKeeps();
        Check.end("EdgesOfDifferTest");
    }

    private static Check two(String a, String b) {
        Check c = new Check();
        c.stand(4, WORLD);
        Check.due(a, c.make(0, a), 0);
        Check.due(b, c.make(0, b), 1);
        return c;
    }

    private static void differs(String a, String b, String due, int word) {
        Check c = two(a, b);
        int n = c.x.differ(0, 0, 1);
        Check.due(a + " / " + b, c.changes(), due);
        Check.due("how many of " + due, n, due.isEmpty() ? 0 : due.split("; ").length);
        Check.due("word of " + due, c.x.word(0, 0, 1), word);
        Check.due("of itself", c.x.differ(0, 0, 0) + c.x.differ(0, 1, 1) + c.x.word(0, 0, 0) + c.x.word(0, 1, 1), 0);
    }

    /** Each number alone, with the word it makes. */
    private static void eachAlone() {
        differs("class a.A { } class a.B { }", "class a.B { }", "1 0 - - -", 3);
        differs("class a.A { }", "face a.A { }", "2 0 0 - -", 3);
        differs("face a.A { }", "class a.A { }", "2 0 0 - -", 3);
        differs("open face a.A { }", "face a.A { }", "3 0 0 - -", 3);
        differs("face a.A { }", "open face a.A { }", "4 0 0 - -", 2);
        differs("class a.A { }", "final class a.A { }", "5 0 0 - -", 3);
        differs("final class a.A { }", "class a.A { }", "6 0 0 - -", 2);
        differs("class a.A { }", "bare class a.A { }", "7 0 0 - -", 3);
        differs("bare class a.A { }", "class a.A { }", "8 0 0 - -", 2);
        differs("class a.A is e.P { }", "class a.A { }", "9 0 0 - -", 3);
        differs("class a.A { }", "class a.A is e.P { }", "9 0 0 - -", 3);
        differs("class a.A as e.F { }", "class a.A { }", "10 0 0 - -", 3);
        differs("class a.A as e.F, e.H { }", "class a.A as e.H { }", "10 0 0 - -", 3);
        differs("class a.A { }", "class a.A as e.F { }", "11 0 0 - -", 2);
        differs("class a.A as e.H { }", "class a.A as e.F, e.H { }", "11 0 0 - -", 2);
        differs("class a.A { } class a.B with a.C { } class a.C in a.B { }", "class a.A in a.B { } class a.B with a.C, a.A { } class a.C in a.B { }", "12 0 0 - -", 2);
        differs("class a.A in a.B { } class a.B with a.A { }", "class a.A { } class a.B { }", "12 0 0 - -", 2);
        differs("class a.A only a.A, a.B { } class a.B { }", "class a.A only a.B { } class a.B { }", "13 0 0 - -", 3);
        differs("class a.A { }", "class a.A only a.A { }", "13 0 0 - -", 3);
        differs("class a.A only a.A { } class a.B { }", "class a.A only a.A, a.B { } class a.B { }", "14 0 0 - -", 2);
        differs("class a.A only a.A { }", "class a.A { }", "14 0 0 - -", 2);
        differs("class a.A only a.A { }", "class a.A only a.A, a.A { }", "14 0 0 - -", 2);
        differs("class a.A only a.A, a.A { }", "class a.A only a.A { }", "14 0 0 - -", 2);
        differs("class a.A only a.A, a.B { } class a.B { }", "class a.A only a.B, a.A { } class a.B { }", "14 0 0 - -", 2);
        differs("class a.A { int x; int y; }", "class a.A { int y; }", "20 0 0 0 -", 3);
        differs("class a.A { int x; }", "class a.A { e.P x; }", "21 0 0 0 0", 3);
        differs("class a.A { e.Q x; }", "class a.A { e.P x; }", "21 0 0 0 0", 3);
        differs("class a.A { static int x; }", "class a.A { int x; }", "22 0 0 0 0", 3);
        differs("class a.A { int x; }", "class a.A { final int x; }", "23 0 0 0 0", 3);
        differs("class a.A { final int x; }", "class a.A { int x; }", "24 0 0 0 0", 2);
        String[] access = {"own ", "", "kin ", "open "};
        for (int i = 0; i < 4; i++) {
            for (int k = 0; k < 4; k++) {
                String sign = i == k ? "" : i > k ? "25" : "26";
                differs("class a.A { " + access[i] + "int x; }", "class a.A { " + access[k] + "int x; }", i == k ? "" : sign + " 0 0 0 0", i == k ? 0 : i > k ? 3 : 2);
                differs("class a.A { " + access[i] + "int f() { return 1; } }", "class a.A { " + access[k] + "int f() { return 1; } }", i == k ? "" : (i > k ? "37" : "38") + " 0 0 0 0", i == k ? 0 : i > k ? 3 : 2);
                differs("class a.A { " + access[i] + "new() { } }", "class a.A { " + access[k] + "new() { } }", i == k ? "" : (i > k ? "51" : "52") + " 0 0 0 0", i == k ? 0 : i > k ? 3 : 2);
            }
        }
        differs("class a.A { static final int x = 1; }", "class a.A { static final int x = 2; }", "27 0 0 0 0", 2);
        differs("class a.A { static final int x = 1; }", "class a.A { static final int x; }", "27 0 0 0 0", 2);
        differs("class a.A { static final int x; }", "class a.A { static final int x = 0; }", "27 0 0 0 0", 2);
        differs("face a.A { int x = 1; }", "face a.A { int x = 0 - 1; }", "27 0 0 0 0", 2);
        differs("class a.A { }", "class a.A { int x; }", "28 0 0 - 0", 2);
        differs("class a.A { void f() { } void g() { } }", "class a.A { void g() { } }", "30 0 0 0 -", 3);
        differs("class a.A { e.Q f() { return null; } }", "class a.A { e.P f() { return null; } }", "31 0 0 0 0", 3);
        differs("class a.A { int f() { throw null; } }", "class a.A { void f() { throw null; } }", "31 0 0 0 0", 3);
        differs("class a.A { void f() { } }", "class a.A { static void f() { } }", "32 0 0 0 0", 3);
        differs("class a.A { static void f() { } }", "class a.A { void f() { } }", "32 0 0 0 0", 3);
        differs("class a.A { void f() { } }", "class a.A { final void f() { } }", "33 0 0 0 0", 3);
        differs("class a.A { final void f() { } }", "class a.A { void f() { } }", "34 0 0 0 0", 2);
        differs("bare class a.A { void f() { } }", "bare class a.A { bare void f(); }", "35 0 0 0 0", 3);
        differs("face a.A { void f() { } }", "face a.A { void f(); }", "35 0 0 0 0", 3);
        differs("bare class a.A { bare void f(); }", "bare class a.A { void f() { } }", "36 0 0 0 0", 2);
        differs("face a.A { void f(); }", "face a.A { void f() { out 1; } }", "36 0 0 0 0", 2);
        differs("class a.A { void f() { } }", "class a.A { void f() { { } } }", "39 0 0 0 0", 1);
        differs("class a.A { }", "class a.A { void f() { } }", "40 0 0 - 0", 2);
        differs("bare class a.A { }", "bare class a.A { bare void f(); }", "41 0 0 - 0", 3);
        differs("face a.A { }", "face a.A { void f(); }", "41 0 0 - 0", 3);
        differs("face a.A { }", "face a.A { void f() { } }", "40 0 0 - 0", 2);
        differs("class a.A { new() { } new(int p) { } }", "class a.A { new() { } }", "50 0 0 1 -", 3);
        differs("class a.A { new() { } }", "class a.A { new() { out 1; } }", "53 0 0 0 0", 1);
        differs("class a.A { new() { } }", "class a.A { new() { } new(int p) { } }", "54 0 0 - 1", 2);
        differs("class a.A { int x = 1; }", "class a.A { int x = 1 + 0; }", "60 0 0 - -", 1);
        differs("class a.A { }", "class a.A { start { } }", "60 0 0 - -", 1);
        differs("", "class a.A { int x; }", "70 - 0 - -", 2);
        differs("", "", "", 0);
    }

    /** What tells no DIFFERENCE: blanks, the order of classes and members, names of params, 'with', 'is z.Any', how a CONSTANT is told. */
    private static void noneOfIt() {
        differs("class a.A { int x; void f(int p) { } }", "class  a.A\n{int x;void f(int p){}}", "", 0);
        differs("class a.A { } class a.B { }", "class a.B { } class a.A { }", "", 0);
        differs("class a.A { int x; void f() { } new() { } int y; }", "class a.A { new() { } void f() { } int y; int x; }", "", 0);
        differs("class a.A { void f(int p) { } new(int p) { } }", "class a.A { void f(int q) { } new(int q) { } }", "", 0);
        differs("class a.A is z.Any { }", "class a.A { }", "", 0);
        differs("class a.A as e.F, e.H { }", "class a.A as e.H, e.F { }", "", 0);
        differs("class a.A { static final int x = 3; }", "class a.A { static final int x = (1 + 2); }", "", 0);
        differs("class a.A { void f() { return ; } }", "class a.A { void f() { return; } }", "", 0);
        differs("face a.A { void f(); open int g() { return 1; } }", "face a.A { bare void f(); int g() { return 1; } }", "", 0);
        differs("face a.A { int x = 1; }", "face a.A { open static final int x = 2 - 1; }", "", 0);
        differs("class a.A { }", "class a.A { new() { } }", "", 0);
        differs("class a.A { new() { } }", "class a.A { }", "", 0);
        differs("open class a.A { }", "open class a.A { open new() { } }", "", 0);
        // BRIDGES are no methods of these.
        String p = "class a.P { open e.P f() { return null; } open z.Any g(int p) { return null; } } ";
        differs(p + "class a.A is a.P { }", p + "class a.A is a.P { open e.Q f() { return null; } }", "40 1 1 - 0", 2);
        differs(p + "class a.A is a.P { open e.Q f() { return null; } }", p + "class a.A is a.P { }", "30 1 1 0 -", 3);
        differs(p + "class a.A is a.P { open e.Q f() { return null; } }", p + "class a.A is a.P { open e.P g(int p) { return null; } }", "30 1 1 0 -; 40 1 1 - 0", 3);
        differs(p + "class a.B { }", p + "class a.A is a.P { open e.Q f() { return null; } } class a.B { }", "70 - 1 - -", 2);
        differs("class a.P { open e.P f() { return null; } } class a.A is a.P { open e.P f() { return null; } }", "class a.P { open e.P f() { return null; } } class a.A is a.P { open e.Q f() { return null; } }", "31 1 1 0 0", 3);
    }

    /** 2: then nothing more of it; 21, 22, and 31, 32: with any of both nothing more of it. */
    private static void nothingMoreOfIt() {
        differs("open final class a.A is e.P as e.F only a.A { int x; void f() { } start { } }", "face a.A { }", "2 0 0 - -", 3);
        differs("open class a.A { open static final int x = 1; }", "open class a.A { own static e.P x; }", "21 0 0 0 0", 3);
        differs("open class a.A { open static int x; }", "open class a.A { final int x; }", "22 0 0 0 0", 3);
        differs("open class a.A { open static int x; }", "open class a.A { final e.P x; }", "21 0 0 0 0; 22 0 0 0 0", 3);
        differs("class a.A { open void f() { } }", "class a.A { final int f() { return 1; } }", "31 0 0 0 0", 3);
        differs("class a.A { open void f() { } }", "class a.A { static final void f() { out 1; } }", "32 0 0 0 0", 3);
        differs("class a.A { open void f() { } }", "class a.A { own static int f() { return 1; } }", "31 0 0 0 0; 32 0 0 0 0", 3);
    }

    /** All of a's of one class in this order, b's others behind each sort; classes of a in order, then b's others. */
    private static void order() {
        differs("class a.A as e.F { int x; int y; void f() { } void g() { } new(int p) { } int z = 1; } class a.B { } class a.C { int w; }", "class a.D { } open class a.C { open int w; } open bare class a.A is e.P as e.H, e.G only a.A { open int y; int v; int u; bare void h(); open void g() { } void i() { } new() { } new(e.P p) { } } class a.E { }",
            "4 0 2 - -; 7 0 2 - -; 9 0 2 - -; 10 0 2 - -; 11 0 2 - -; 11 0 2 - -; 13 0 2 - -; 20 0 2 0 -; 26 0 2 1 0; 20 0 2 5 -; 28 0 2 - 1; 28 0 2 - 2; 30 0 2 2 -; 38 0 2 3 4; 41 0 2 - 3; 40 0 2 - 5; 50 0 2 4 -; 54 0 2 - 6; 54 0 2 - 7; 60 0 2 - -; 1 1 - - -; 4 2 1 - -; 26 2 1 0 0; 52 2 1 1 1; 70 - 0 - -; 70 - 3 - -", 3);
        differs("final class a.A { static final int x = 1; final void f() { } new() { } }", "bare class a.A { own static int x = 1; open void f() { out 1; } own new() { out 1; } }",
            "6 0 0 - -; 7 0 0 - -; 24 0 0 0 0; 25 0 0 0 0; 27 0 0 0 0; 34 0 0 1 1; 38 0 0 1 1; 39 0 0 1 1; 51 0 0 2 2; 53 0 0 2 2; 60 0 0 - -", 3);
    }

    /** 39, 53, 60 hold tokens against one another. */
    private static void sameTokens() {
        differs("class a.A { int f() { return 1; } }", "class a.A { int f() { return 01; } }", "39 0 0 0 0", 1);
        differs("class a.A { int f() { return 1+1; } }", "class a.A { int f() { return 1 + 1; } }", "", 0);
        differs("class a.A { int f() { return f(); } }", "class a.A { int f() { return f ( ) ; } }", "", 0);
        differs("class a.A { int f(int p) { return p; } }", "class a.A { int f(int q) { return q; } }", "39 0 0 0 0", 1);
        differs("class a.A { int f() { return 1; } }", "class a.A { int f() { return 1; { } } }", "39 0 0 0 0", 1);
        differs("class a.A { int f() { return 1; { } } }", "class a.A { int f() { return 1; } }", "39 0 0 0 0", 1);
        differs("class a.A { int x = 1; int y = 2; }", "class a.A { int y = 1; int x = 2; }", "", 0);
        differs("class a.A { int x = 1; int y = 2; }", "class a.A { int y = 2; int x = 1; }", "60 0 0 - -", 1);
        differs("class a.A { static int x = 1; start { } }", "class a.A { start { } static int x = 1; }", "60 0 0 - -", 1);
        differs("class a.A { start { out 1; } start { out 2; } }", "class a.A { start { out 1; out 2; } }", "60 0 0 - -", 1);
        differs("class a.A { int x = 1; static int y = 2; }", "class a.A { static int y = 1; int x = 2; }", "", 0);
        differs("class a.A { static final int k = 1; int x = k; }", "class a.A { int x = k; static final int k = 1; }", "", 0);
        differs("class a.A { static final int k = 1; static int x = 1; }", "class a.A { static final int k = 1; static int x = 1; start { } }", "60 0 0 - -", 1);
        differs("class a.A { static final int k = 7; }", "class a.A { static final int k = m(); static int m() { return 7; } }", "27 0 0 0 0; 40 0 0 - 1; 60 0 0 - -", 2);
    }

    /** The maker that was told none has the BLOCK {}. */
    private static void makersAlone() {
        differs("class a.A { }", "class a.A { new() { out 1; } }", "53 0 0 0 0", 1);
        differs("class a.A { int x; new() { out 1; } }", "class a.A { int x; }", "53 0 0 1 1", 1);
        differs("open class a.A { }", "open class a.A { new() { } }", "51 0 0 0 0", 3);
        differs("class a.A { }", "class a.A { open new() { { } } }", "52 0 0 0 0; 53 0 0 0 0", 2);
        differs("class a.A { }", "class a.A { new(e.P p) { } }", "50 0 0 0 -; 54 0 0 - 0", 3);
        differs("class a.A { new(e.P p) { } }", "class a.A { new(e.Q p) { } }", "50 0 0 0 -; 54 0 0 - 0", 3);
    }

    /** The version word is the greatest that any tells. */
    private static void greatest() {
        differs("class a.A { int x = 1; void f() { } }", "class a.A { int x = 2; void f() { out 1; } }", "39 0 0 1 1; 60 0 0 - -", 1);
        differs("class a.A { int x = 1; }", "class a.A { int x = 2; } class a.B { }", "60 0 0 - -; 70 - 1 - -", 2);
        differs("class a.A { int x = 1; } class a.B { }", "class a.A { int x = 2; } class a.C { }", "60 0 0 - -; 1 1 - - -; 70 - 1 - -", 3);
        Check c = two("class a.A { }", "class a.A { int x; }");
        Check.due("one way", c.x.word(0, 0, 1), 2);
        Check.due("the other", c.x.word(0, 1, 0), 3);
        Check.due("no differ() was", c.x.change(0, 0), LinkHouse.BAD);
    }

    /** DIFFERENCE i of the latest differ(). */
    private static void changes() {
        Check c = two("class a.A { int x; }", "class a.A { int y; }");
        Check.due("none yet", c.x.change(0, 0), LinkHouse.BAD);
        Check.due("differ", c.x.differ(0, 0, 1), 2);
        int[] due = {28, 0, 0, LinkHouse.NONE, 0};
        for (int what = 0; what < 5; what++) {
            Check.due("change 1 " + what, c.x.change(1, what), due[what]);
        }
        for (int[] bad : new int[][] {{2, 0}, {-1, 0}, {0, 5}, {0, -1}, {LinkHouse.NONE, 0}, {Integer.MAX_VALUE, 0}, {Integer.MIN_VALUE, 4}, {0, Integer.MAX_VALUE}}) {
            Check.due("change " + bad[0] + " " + bad[1], c.x.change(bad[0], bad[1]), LinkHouse.BAD);
        }
        c.make(1, "class b.B { }");
        c.x.pick(0, 1);
        c.x.weave(0, 0, 1);
        Check.due("differ of no build", c.x.differ(0, 0, 2), LinkHouse.BAD);
        Check.due("it stays", c.changes(), "20 0 0 0 -; 28 0 0 - 0");
        Check.due("the latest", c.x.differ(1, 0, 0), 0);
        Check.due("none", c.x.change(0, 0), LinkHouse.BAD);
    }

    /** With a's and b's class a.A of these members: what is woven behind b's members, or nothing. */
    private static void weaves(String a, String b, String due) {
        Check c = two("open class a.A { " + a + " } open class a.B is a.A { }", "open class a.A { " + b + " } open class a.B is a.A { }");
        int answer = c.x.weave(0, 0, 1);
        Check.due("weave of " + a + " / " + b, answer, due.isEmpty() ? LinkHouse.NONE : 2);
        Check.due("builds", c.x.builds(0), due.isEmpty() ? 2 : 3);
        if (!due.isEmpty()) {
            Check.due(b, c.members(0, 2, 0), c.members(0, 1, 0) + "; " + due);
        }
    }

    private static void wovenOrNot() {
        weaves("open z.Any f() { return null; }", "open e.P f() { return null; }", "bridge open z.Any f()");
        weaves("z.Any f() { return null; }", "kin e.P f() { return null; }", "bridge kin z.Any f()");
        weaves("open static z.Any f() { return null; }", "static e.P f() { return null; }", "bridge static z.Any f()");
        weaves("own z.Any f() { return null; }", "open e.P f() { return null; }", "");
        weaves("open z.Any f() { return null; }", "own e.P f() { return null; }", "");
        weaves("open z.Any f() { return null; }", "open static e.P f() { return null; }", "");
        weaves("open static z.Any f() { return null; }", "open e.P f() { return null; }", "");
        weaves("open z.Any f() { return null; }", "open z.Any f() { return null; }", "");
        weaves("open z.Any f() { return null; }", "open e.P f(int p) { return null; }", "");
        weaves("open z.Any f(int p) { return null; }", "open e.P f(int q) { return null; }", "bridge open z.Any f(int)");
        weaves("open z.Any f(e.Q p) { return null; }", "open e.P f(e.P p) { return null; }", "");
        weaves("open final z.Any f() { return null; }", "open final e.P f() { return null; }", "bridge open z.Any f()");
        weaves("open z.Any f() { return null; } own z.Any g() { return null; } open z.Any h(int p) { return null; }", "open e.Q h(int p) { return null; } open e.P f() { return null; } e.P g() { return null; }", "bridge open z.Any f(); bridge open z.Any h(int)");
        Check c = two("bare class a.A { bare z.Any f(); z.Any g() { return null; } }", "bare class a.A { e.P f() { return null; } bare e.P g(); }");
        Check.due("a's bare, b's not", c.x.weave(0, 0, 1), 2);
        Check.due("members", c.members(0, 2, 0), "e.P f(); bare e.P g(); new(); bridge z.Any f()");
    }

    /** Whose RESULT is a class that FITS a's. */
    private static void wovenResults() {
        String[][] all = {{"z.Any", "e.P", "1"}, {"e.P", "e.Q", "1"}, {"e.Q", "e.P", "0"}, {"e.F", "e.I", "1"}, {"e.G", "e.I", "1"}, {"e.H", "e.I", "0"}, {"e.F", "e.G", "1"}, {"z.Any", "e.F", "1"}, {"z.Any", "a.B", "1"}, {"a.A", "a.B", "1"}, {"a.B", "a.A", "0"}, {"e.P", "a.A", "0"}};
        for (String[] each : all) {
            weaves("open " + each[0] + " f() { return null; }", "open " + each[1] + " f() { return null; }", each[2].equals("1") ? "bridge open " + each[0] + " f()" : "");
        }
        weaves("open z.Any f() { throw null; }", "open int f() { throw null; }", "");
        weaves("open int f() { throw null; }", "open z.Any f() { throw null; }", "");
        weaves("open int f() { throw null; }", "open void f() { throw null; }", "");
        weaves("open void f() { throw null; }", "open z.Any f() { throw null; }", "");
        weaves("open z.Any f() { throw null; }", "open void f() { throw null; }", "");
    }

    /** What is woven has BRIDGES: it can be woven again, with another. */
    private static void wovenTwice() {
        Check c = two("open class a.A { open z.Any f() { return null; } }", "open class a.A { open e.Q f() { return null; } }");
        c.make(0, "open class a.A { open e.P f() { return null; } }");
        Check.due("woven", c.x.weave(0, 0, 1), 3);
        Check.due("what it has is not healed again", c.x.weave(0, 0, 3), LinkHouse.NONE);
        Check.due("with another one", c.x.weave(0, 2, 3), 4);
        Check.due("members", c.members(0, 4, 0), "open e.Q f(); open new(); bridge open z.Any f(); bridge open e.P f()");
        Check.due("uses", c.uses(0, 4, 0), "7 a.A.f()e.Q; 17 e.Q>e.P");
        Check.due("a woven one's BRIDGES are not healed", c.x.weave(0, 3, 1), LinkHouse.NONE);
        Check.due("text of the second", c.x.text(0, 4), c.x.text(0, 1));
        Check.due("differ of both", c.x.differ(0, 1, 4), 0);
        // By what THE WORLD has: it runs.
        c.x.pick(0, 0);
        c.stand(1, "class c.M { static void m() { let a.A v = new a.A(); out v.f() == null; } }");
        c.x.pick(0, 1);
        Check.due("without", c.run("c.M.m"), -15);
        c.x.pick(0, 3);
        Check.due("with", c.run("c.M.m"), 1);
        Check.due("the BRIDGE is a call", c.x.told(0), 1 + 2 + 1 + 2 + 1);
    }

    /** Beside the BRIDGES that b has by itself. */
    private static void wovenBridges() {
        String p = "open class a.P { open z.Any f() { return null; } } ";
        Check c = two(p + "open class a.A is a.P { open z.Any f() { return null; } }", p + "open class a.A is a.P { open e.P f() { return null; } }");
        Check.due("b's own BRIDGE has that RESULT", c.x.weave(0, 0, 1), LinkHouse.NONE);
        Check d = two(p + "open class a.A is a.P { open e.P f() { return null; } }", p + "open class a.A is a.P { open e.Q f() { return null; } }");
        Check.due("another RESULT", d.x.weave(0, 0, 1), 2);
        Check.due("members", d.members(0, 2, 1), "open e.Q f(); open new(); bridge open z.Any f(); bridge open e.P f()");
        Check.due("uses", d.uses(0, 2, 1), "18 a.P; 2 a.P.new(); 7 a.A.f()e.Q; 17 e.Q>e.P");
    }

    /** For each class of both, of one sort. */
    private static void wovenClasses() {
        Check c = two("open class a.A { open z.Any f() { return null; } } open face a.F { z.Any f() { return null; } z.Any g(); z.Any h() { return null; } static z.Any s() { return null; } } class a.C { open z.Any f() { return null; } } face a.D { z.Any f(); } class a.E { z.Any f() { return null; } }",
            "face a.D { e.P f() { return null; } } open face a.F { e.P f() { return null; } e.P g() { return null; } e.P h(); static e.P s() { return null; } } face a.C { e.P f() { return null; } } class a.G { e.P f() { return null; } } open class a.A { open e.P f() { return null; } }");
        Check.due("woven", c.x.weave(0, 0, 1), 2);
        Check.due("a.D", c.members(0, 2, 0), "open e.P f(); bridge open z.Any f()");
        Check.due("a.F", c.members(0, 2, 1), "open e.P f(); open e.P g(); open bare e.P h(); open static e.P s(); bridge open z.Any f(); bridge open z.Any g(); bridge open static z.Any s()");
        Check.due("a.C is a face now", c.members(0, 2, 2), "open e.P f()");
        Check.due("a.G is new", c.members(0, 2, 3), "e.P f(); new()");
        Check.due("a.A", c.members(0, 2, 4), "open e.P f(); open new(); bridge open z.Any f()");
        Check.due("uses", c.uses(0, 2, 1), "8 a.F.f()e.P; 8 a.F.g()e.P; 10 a.F.s()e.P");
        Check.due("no classes but b's", c.x.classes(0, 2), 5);
    }

    /** FULL: as make(), or a 13th BRIDGE in a class; NONE ahead of both. */
    private static void wovenFull() {
        for (int n = 11; n <= 13; n++) {
            StringBuilder old = new StringBuilder();
            StringBuilder now = new StringBuilder();
            for (int i = 0; i < n; i++) {
                old.append("open z.Any f").append(i).append("() { return null; } ");
                now.append("open e.P f").append(i).append("() { return null; } ");
            }
            Check c = two("class a.B { open z.Any g() { return null; } } class a.A { " + old + "}", "class a.B { open e.P g() { return null; } } class a.A { " + now + "}");
            Check.due(n + " BRIDGES", c.x.weave(0, 0, 1), n <= 12 ? 2 : LinkHouse.FULL);
            Check.due("builds", c.x.builds(0), n <= 12 ? 3 : 2);
            Check.due("a build of another library behind it", c.make(1, "class q.Q { int x; }"), 0);
            Check.due("it is well", c.members(1, 0, 0), "int x; new()");
            Check.due("b is as it was", c.x.members(0, 1, 1), n + 1);
            // One that b has by itself counts.
            String p = "class a.P { open z.Any h() { return null; } } ";
            Check d = two(p + "class a.A is a.P { open z.Any h() { return null; } " + old + "}", p + "class a.A is a.P { open e.P h() { return null; } " + now + "}");
            Check.due(n + " and one", d.x.weave(0, 0, 1), n <= 11 ? 2 : LinkHouse.FULL);
        }
        Check e = two("class a.A { z.Any f() { return null; } }", "class a.A { e.P f() { return null; } }");
        for (int i = 2; i < 8; i++) {
            e.make(0, "");
        }
        Check.due("eight builds", e.x.weave(0, 0, 1), LinkHouse.FULL);
        Check.due("nothing is healed", e.x.weave(0, 1, 0), LinkHouse.NONE);
        Check.due("no such build", e.x.weave(0, 0, 8), LinkHouse.BAD);
        Check f = two("class a.A { z.Any f() { return null; } }", "class a.A { e.P f() { return null; } }");
        for (int i = 0; i < 8; i++) {
            f.make(1, "");
        }
        for (int i = 0; i < 5; i++) {
            Check.due("builds", f.make(2, ""), i);
        }
        Check.due("sixteen builds", f.x.weave(0, 0, 1), LinkHouse.FULL);
        Check.due("nothing is healed", f.x.weave(1, 0, 1), LinkHouse.NONE);
        Check.due("no such build", f.x.weave(1, 0, 8), LinkHouse.BAD);
    }

    /** A woven build is b in all else: heads, members, USES, CONSTANTS, starts, what runs. */
    private static void wovenKeeps() {
        String text = "open final class a.A is a.P as e.F, e.H in a.N only a.A, a.A { open # f() { out 1; return null; } int x = 3; static int y; static final int k = 7; start { y = x2() + k; } static int x2() { return a.A.k * 2; } own new(int p) { super(5); x = p; } open new() { super(5); } } "
            + "class a.N with a.A, a.A { own static int o = 4; static void m() { let a.A v = new a.A(6); out v.x; out v.code; out a.A.y; out v.f() == null; v.g(); out a.F.z; } } open bare class a.P is z.Ill { open int x; new(int p) { code = p; } open bare # f(); open e.P g() { out 2; return f(); } } face a.F as e.G only a.P { int z = a.A.y; bare int b(); }";
        Check c = two(text.replace("#", "e.P"), text.replace("#", "e.Q"));
        Check.due("woven", c.x.weave(0, 0, 1), 2);
        Check.due("classes", c.x.classes(0, 2), 4);
        for (int k = 0; k < 4; k++) {
            Check.due("head", c.head(0, 2, k), c.head(0, 1, k));
            Check.due("members", c.members(0, 2, k), c.members(0, 1, k) + (k == 0 ? "; bridge open e.P f()" : ""));
            Check.due("uses", c.uses(0, 2, k), c.uses(0, 1, k) + (k == 0 ? "; 7 a.A.f()e.Q; 17 e.Q>e.P" : ""));
        }
        Check.due("a head", c.head(0, 2, 0), "open final class a.A is a.P as e.F,e.H in a.N only a.A,a.A");
        Check.due("no difference", c.x.differ(0, 1, 2) + c.x.differ(0, 2, 1), 0);
        Check.due("the same to another", c.x.differ(0, 0, 2), c.x.differ(0, 0, 1));
        for (int build = 1; build <= 2; build++) {
            c.x.pick(0, build);
            Check.due("run", c.run("a.N.m"), 1);
            Check.due("numbers", c.numbers(), "6 5 21 1 1 2 1 21");
            Check.due("broken", c.x.broken(), 0);
            Check.due("stale", c.x.stale(), 0);
        }
        Check.due("text", c.x.text(0, 2), c.x.text(0, 1));
        Check.due("made again", c.x.make(0), 3);
        Check.due("it is b", c.x.differ(0, 1, 3), 0);
    }

    /** In THE WORLD as it is, with b in place of the library's. */
    private static void wovenWorld() {
        Check c = two("class a.A { open e.P f() { return null; } open a.P g() { return null; } } class a.P { } class a.Q { }", "class a.A { open e.Q f() { return null; } open a.Q g() { return null; } } class a.P { } class a.Q is a.P { }");
        Check.due("b's own PARENTS, whatever stands", c.x.weave(0, 0, 1), 2);
        Check.due("members", c.members(0, 2, 0), "open e.Q f(); open a.Q g(); new(); bridge open e.P f(); bridge open a.P g()");
        c.x.pick(0, 0);
        Check.due("with a standing", c.x.weave(0, 0, 1), 3);
        Check.due("members", c.members(0, 3, 0), c.members(0, 2, 0));
        c.x.pick(4, LinkHouse.NONE);
        Check.due("e.P and e.Q are not there", c.x.weave(0, 0, 1), 4);
        Check.due("members", c.members(0, 4, 0), "open e.Q f(); open a.Q g(); new(); bridge open a.P g()");
        c.make(4, "open class e.P { } open class e.Q { }");
        c.x.pick(4, 1);
        Check.due("e.Q FITS no more", c.x.weave(0, 0, 1), 5);
        Check.due("members", c.members(0, 5, 0), c.members(0, 4, 0));
        Check.due("what stands stays", c.x.picked(0) * 10 + c.x.picked(4), 1);
        c.make(4, "open face e.P { } open class e.Q as e.P { }");
        c.x.pick(4, 2);
        Check.due("a face now", c.x.weave(0, 0, 1), 6);
        Check.due("members", c.members(0, 6, 0), c.members(0, 2, 0));
    }
}
