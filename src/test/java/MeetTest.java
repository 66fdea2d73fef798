/** Promises 19 to 25: meet, met, looked, broken, brokenAt, stale, choose. */
public final class MeetTest {
    private static final String LIB = "open class a.P { open int i; kin int k; open static int s; open final int e; open new() { } open new(int p) { } "
        + "open int m(a.F p) { return 1; } open static int t() { return 2; } open final void z() { } } "
        + "open class a.Q is a.P as a.F { open new() { } open int f() { return 1; } } open face a.F { int f(); int d() { return 1; } static int w() { return 3; } int c = 4; } "
        + "open class a.X is z.Ill { }";
    private static final String USER = "class c.M { void all(a.Q q, a.F f) { new a.Q(); new a.P(1); out q.i; q.i = 1; out a.Q.s; a.Q.s = 2; out q.m(f); out f.f(); "
        + "out a.Q.t(); out a.F.w(); let z.Any v = (a.P) null; out v ask a.F; try { f = q; } catch (a.X x) { let a.P p = q; } out a.F.c; } } "
        + "class c.N is a.Q { int k2() { return k + super.m(null) + super.d(); } } class c.O as a.F { open int f() { return a.F.super.d(); } } class c.Y is z.Any { }";

    public static void main(String[] args) {
        asMade();
        classesGone();
        membersGone();
        letAndSorts();
        loading();
        finding();
        supers();
        nests();
        answers();
        brokenAndStale();
        choosing();
        Check.end("MeetTest");
    }

    private static Check met(String lib) {
        Check c = new Check();
        c.stand(0, LIB);
        c.stand(1, USER);
        if (lib != null) {
            c.x.pick(0, LinkHouse.NONE);
            c.x.pick(1, LinkHouse.NONE);
            c.stand(0, lib);
            c.x.pick(1, 0);
        }
        return c;
    }

    private static void asMade() {
        Check c = met(null);
        String[] due = {"1 a.Q: 0  []", "2 a.Q.new(): 0 a.Q.new() [a.Q]", "2 a.P.new(int): 0 a.P.new(int) [a.P]", "3 a.Q.i:int: 0 a.P.i:int [a.Q a.F a.P]",
            "4 a.Q.i:int: 0 a.P.i:int [a.Q a.F a.P]", "5 a.Q.s:int: 0 a.P.s:int [a.Q a.F a.P]", "6 a.Q.s:int: 0 a.P.s:int [a.Q a.F a.P]",
            "7 a.Q.m(a.F)int: 0 a.P.m(a.F)int [a.Q a.P]", "8 a.F.f()int: 0 a.F.f()int [a.F]", "9 a.Q.t()int: 0 a.P.t()int [a.Q a.P]", "10 a.F.w()int: 0 a.F.w()int [a.F]",
            "13 a.P: 0  []", "14 a.F: 0  []", "15 a.X: 0  []", "17 a.Q>a.F: 0  []", "17 a.Q>a.P: 0  []", "16 a.F.c=4: 0  []", "18 a.Q: 0  []",
            "3 c.N.k:int: 0 a.P.k:int [c.N a.Q a.F a.P]", "11 a.Q.m(a.F)int: 0 a.P.m(a.F)int [a.Q a.P]", "11 a.Q.d()int: 0 a.F.d()int [a.Q a.P z.Any a.F]",
            "19 a.F: 0  []", "12 a.F.d()int: 0 a.F.d()int [a.F]", "18 z.Any: 0  []"};
        for (String s : due) {
            String told = s.substring(0, s.lastIndexOf(": "));
            Check.due(s, told + ": " + c.meet(1, 0, told), s);
        }
        Check.due("none is broken", c.x.broken(), 0);
        Check.due("none is stale", c.x.stale(), 0);
    }

    private static void meets(String lib, String... due) {
        Check c = met(lib);
        for (String s : due) {
            String told = s.substring(0, s.lastIndexOf(": "));
            Check.due(s, told + ": " + c.meet(1, 0, told), s);
        }
    }

    private static void classesGone() {
        meets("open face a.F { int f(); int d() { return 1; } }", "1 a.Q: 1  []", "2 a.P.new(int): 1  []", "3 a.Q.i:int: 1  []", "8 a.F.f()int: 0 a.F.f()int [a.F]",
            "13 a.P: 1  []", "15 a.X: 1  []", "17 a.Q>a.F: 0  []", "17 a.Q>a.P: 1  []", "16 a.F.c=4: 17  []", "18 a.Q: 1  []", "3 c.N.k:int: 1  []");
        meets("open class a.P { } open class a.F { } open class a.X { }", "17 a.Q>a.F: 1  []", "17 a.Q>a.P: 1  []", "15 a.X: 11  []", "16 a.F.c=4: 17  []");
        meets("class a.X { }", "15 a.X: 11  []", "17 a.Q>a.F: 1  []");
        meets("class a.X is z.Ill { } class a.P { } open class a.Q is a.P { }", "15 a.X: 2  []", "1 a.Q: 0  []", "2 a.P.new(int): 2  []", "13 a.P: 2  []", "17 a.Q>a.P: 0  []");
        meets("open class a.P { } open class a.Q { }", "17 a.Q>a.P: 11  []", "16 a.F.c=4: 17  []");
        meets("open face a.F { int c = 2 + 2; } open face a.Q { }", "16 a.F.c=4: 0  []", "17 a.Q>a.F: 0  []", "18 a.Q: 3  []");
        meets("open face a.F { int c = 5; }", "16 a.F.c=4: 17  []");
        meets("open class a.F { int c; }", "16 a.F.c=4: 17  []");
        meets("open class a.G { static final int c = 4; } class a.F is a.G { static final z.Any c = null; }", "16 a.F.c=4: 0  []", "14 a.F: 2  []");
    }

    private static void membersGone() {
        meets("open class a.P { open int i() { return 1; } open new(z.Any p) { } open int m(z.Any p) { return 1; } } open class a.Q is a.P { new() { super(null); } open z.Any i; } open face a.F { void f(); }",
            "2 a.Q.new(): 2 a.Q.new() [a.Q]", "2 a.P.new(int): 5  [a.P]", "3 a.Q.i:int: 4  [a.Q a.P z.Any]", "7 a.Q.m(a.F)int: 5  [a.Q a.P z.Any]",
            "8 a.F.f()int: 5  [a.F]", "10 a.F.w()int: 5  [a.F]", "9 a.Q.t()int: 5  [a.Q a.P z.Any]");
        meets("open class a.P { own int i; open final int s; open static int m(a.F p) { return 1; } open int t() { return 1; } } "
            + "open class a.Q is a.P { } open face a.F { static int f() { return 1; } int w(); }",
            "3 a.Q.i:int: 2 a.P.i:int [a.Q a.P]", "4 a.Q.i:int: 2 a.P.i:int [a.Q a.P]", "5 a.Q.s:int: 3 a.P.s:int [a.Q a.P]", "6 a.Q.s:int: 3 a.P.s:int [a.Q a.P]",
            "7 a.Q.m(a.F)int: 3 a.P.m(a.F)int [a.Q a.P]", "9 a.Q.t()int: 3 a.P.t()int [a.Q a.P]", "8 a.F.f()int: 3 a.F.f()int [a.F]", "10 a.F.w()int: 3 a.F.w()int [a.F]");
        meets("open class a.P { open static int i; open static final int s; kin int m(a.F p) { return 1; } static int t() { return 1; } } "
            + "open class a.Q is a.P { } open face a.F { own int f() { return 1; } own static int w() { return 1; } }",
            "3 a.Q.i:int: 3 a.P.i:int [a.Q a.P]", "5 a.Q.s:int: 0 a.P.s:int [a.Q a.P]", "6 a.Q.s:int: 2 a.P.s:int [a.Q a.P]",
            "7 a.Q.m(a.F)int: 2 a.P.m(a.F)int [a.Q a.P]", "9 a.Q.t()int: 2 a.P.t()int [a.Q a.P]", "8 a.F.f()int: 2 a.F.f()int [a.F]", "10 a.F.w()int: 2 a.F.w()int [a.F]",
            "11 a.Q.m(a.F)int: 0 a.P.m(a.F)int [a.Q a.P]");
        meets("open class a.P { open final int i; } open class a.Q is a.P { } open face a.F { }", "3 a.Q.i:int: 0 a.P.i:int [a.Q a.P]", "4 a.Q.i:int: 2 a.P.i:int [a.Q a.P]");
    }

    private static void letAndSorts() {
        meets("open face a.P { int s = 1; int m(a.F p); static int t() { return 1; } } open bare class a.Q as a.P { } open class a.F { open int f() { return 1; } open static int w() { return 1; } }",
            "1 a.Q: 7  []", "2 a.P.new(int): 3  []", "2 a.Q.new(): 0 a.Q.new() [a.Q]", "5 a.Q.s:int: 0 a.P.s:int [a.Q a.P]", "6 a.Q.s:int: 2 a.P.s:int [a.Q a.P]",
            "7 a.Q.m(a.F)int: 0 a.P.m(a.F)int [a.Q z.Any a.P]", "8 a.F.f()int: 3  []", "10 a.F.w()int: 3  []", "12 a.F.d()int: 3  []", "9 a.Q.t()int: 5  [a.Q z.Any a.P]");
        meets("open face a.Q { int m(a.F p); } open face a.F { }", "1 a.Q: 7  []", "2 a.Q.new(): 3  []", "7 a.Q.m(a.F)int: 3  []", "9 a.Q.t()int: 3  []", "3 a.Q.i:int: 4  [a.Q]");
        meets("class a.Q { open int i; } face a.F { }", "1 a.Q: 2  []", "2 a.Q.new(): 2  []", "3 a.Q.i:int: 2  []", "7 a.Q.m(a.F)int: 2  []", "14 a.F: 2  []", "17 a.Q>a.F: 0  []");
    }

    private static void loading() {
        meets("open class a.P { } open final class a.Q is a.P { } open face a.F { }", "18 a.Q: 3  []", "3 c.N.k:int: 3  []", "11 a.Q.m(a.F)int: 3  []", "1 a.Q: 0  []");
        meets("open class a.Q only a.Q { } open face a.F only a.Q { }", "18 a.Q: 3  []", "19 a.F: 3  []", "1 a.Q: 0  []");
        meets("open face a.Q { } open class a.F { }", "18 a.Q: 3  []", "19 a.F: 3  []");
        meets("class a.Q { } face a.F { }", "18 a.Q: 2  []", "19 a.F: 2  []");
        meets("open class a.P { }", "18 a.Q: 1  []", "19 a.F: 1  []", "12 a.F.d()int: 1  []");
        Check c = new Check();
        c.stand(0, "open class a.A { } open face a.F { } open class a.C { }");
        c.stand(1, "open class b.B { } open face b.F { }");
        c.make(0, "open class a.A is b.B { } open face a.F as b.F { } open class a.C is a.A as a.F { } open class a.D as a.F { }");
        c.make(1, "open class b.B is a.A { } open face b.F as a.F { } open class b.C is z.Ill as b.F { }");
        c.x.pick(0, 1);
        c.x.pick(1, 1);
        Check.due("a ring", c.meet(0, 1, "18 b.B"), "10  []");
        Check.due("a ring", c.meet(0, 1, "19 b.F"), "10  []");
        Check.due("a ring above", c.meet(0, 1, "18 a.A"), "10  []");
        Check.due("all of them", c.x.broken(), 13);
        c.x.pick(1, 0);
        Check.due("no ring", c.x.broken(), 0);
    }

    private static void finding() {
        Check c = new Check();
        c.stand(0, "open face a.F { int m() { return 1; } } open face a.G as a.F { int m() { return 2; } } open face a.H { } "
            + "open class a.Q as a.F, a.G, a.H { } open face a.I as a.G { }");
        c.stand(1, "class c.M { void f(a.Q q, a.I i) { q.m(); i.m(); } }");
        Check.due("the most special", c.meet(1, 0, "7 a.Q.m()int"), "0 a.G.m()int [a.Q z.Any a.F a.G a.H]");
        Check.due("of a face", c.meet(1, 0, "8 a.I.m()int"), "0 a.G.m()int [a.I a.G a.F]");
        c.make(0, "open face a.F { int m() { return 1; } } open face a.G { int m() { return 2; } } open bare class a.Q as a.G, a.F { open z.Any m; } open face a.I as a.F, a.G { }");
        Check.due("a bare class may clash", c.x.told(7), 3);
        c.make(0, "open face a.F { int m() { return 1; } } open face a.G { int m(); } open bare class a.Q as a.G, a.F { } open face a.I as a.H, a.G, a.F { } open face a.H { static int m() { return 0; } }");
        c.x.pick(0, 2);
        Check.due("the only one that is not bare", c.meet(1, 0, "7 a.Q.m()int"), "0 a.F.m()int [a.Q z.Any a.G a.F]");
        Check.due("of a face", c.meet(1, 0, "8 a.I.m()int"), "0 a.F.m()int [a.I a.H a.G a.F]");
        c.x.pick(0, 1);
        Check.due("else the first", c.meet(1, 0, "7 a.Q.m()int"), "0 a.G.m()int [a.Q z.Any a.G a.F]");
        Check.due("of a face", c.meet(1, 0, "8 a.I.m()int"), "0 a.F.m()int [a.I a.F a.G]");
    }

    private static void supers() {
        Check c = new Check();
        c.stand(0, "open class a.P { open int m() { return 1; } } open class a.Q is a.P { open int m() { return 2; } } open face a.F { int d() { return 3; } } open class a.R as a.F { }");
        c.stand(1, "class c.M is a.Q { int f() { return super.m(); } } class c.N is a.R as a.F { int f() { return super.d() + a.F.super.d(); } }");
        Check.due("super", c.meet(1, 0, "11 a.Q.m()int"), "0 a.Q.m()int [a.Q]");
        c.make(0, "open class a.P { open int m() { return 1; } } open class a.Q is a.P { } open face a.F { int d(); } open face a.G { int d() { return 1; } } open face a.H { int d() { return 1; } } "
            + "open bare class a.R as a.G, a.H { }");
        c.x.pick(0, 1);
        Check.due("super goes up", c.meet(1, 0, "11 a.Q.m()int"), "0 a.P.m()int [a.Q a.P]");
        Check.due("a clash", c.meet(1, 0, "11 a.R.d()int"), "3  [a.R z.Any a.G a.H]");
        Check.due("bare", c.meet(1, 0, "12 a.F.d()int"), "6  [a.F]");
        c.make(0, "open bare class a.P { open bare int m(); } open bare class a.Q is a.P { } open face a.F { own int d() { return 1; } } open bare class a.R as a.H { } open face a.H { int d(); }");
        c.x.pick(0, 2);
        Check.due("bare", c.meet(1, 0, "11 a.Q.m()int"), "6  [a.Q a.P]");
        Check.due("bare", c.meet(1, 0, "11 a.R.d()int"), "6  [a.R z.Any a.H]");
        Check.due("own", c.meet(1, 0, "12 a.F.d()int"), "2  [a.F]");
        c.make(0, "open class a.P { open int m() { return 1; } } open class a.Q is a.P { open static int n() { return 1; } } open face a.F as a.H { } open class a.R as a.H { } open face a.H { int d() { return 4; } }");
        c.x.pick(0, 3);
        Check.due("from a face above", c.meet(1, 0, "11 a.R.d()int"), "0 a.H.d()int [a.R z.Any a.H]");
        Check.due("from a face above", c.meet(1, 0, "12 a.F.d()int"), "0 a.H.d()int [a.F a.H]");
    }

    private static void nests() {
        Check c = new Check();
        c.stand(1, "open class a.H { } open face a.G { }");
        c.stand(0, "class a.A with a.N { own int x; own new() { } own static void f() { } } class a.N in a.A { own int y; void g(a.A v) { v.x = 1; new a.A(); a.A.f(); } } "
            + "class a.O { void h() { } }");
        Check.due("one nest", c.meet(0, 0, "4 a.A.x:int"), "0 a.A.x:int [a.A]");
        Check.due("one nest", c.meet(0, 0, "2 a.A.new()"), "0 a.A.new() [a.A]");
        Check.due("one nest", c.meet(0, 0, "9 a.A.f()void"), "0 a.A.f()void [a.A]");
        c.make(0, "class a.A with a.N { own int x; own new() { } own static void f() { } } class a.N is a.H in a.A { own int y; void g(a.A v) { v.x = 1; new a.A(); a.A.f(); } }");
        c.x.pick(0, 1);
        c.x.touch(0, 1, c.useOf(0, 1, "4 a.A.x:int"));
        Check.due("the nest was LOADED already", c.events(), "401 301 201");
        Check d = new Check();
        d.stand(1, "open class a.H { } ");
        d.stand(0, "class a.A is a.H with a.N, a.M { own static int x; } class a.N in a.A { static void g() { a.M.y = 1; } } class a.M in a.A { own static int y; }");
        Check.due("the nest of both", d.meet(0, 0, "6 a.M.y:int"), "0 a.M.y:int [a.M]");
        d.x.touch(0, 0, d.useOf(0, 0, "6 a.M.y:int"));
        Check.due("D, C, then the nest", d.events(), "301 401 501 201");
        d.x.pick(1, LinkHouse.NONE);
        Check.due("a nest that is not LOADED", d.meet(0, 0, "6 a.M.y:int"), "2 a.M.y:int [a.M]");
        d.x.touch(0, 0, d.useOf(0, 0, "6 a.M.y:int"));
        Check.due("its failure is an event", d.events(), "301 401 205");
    }

    private static void answers() {
        Check c = met(null);
        int u = c.useOf(1, 0, "7 a.Q.m(a.F)int");
        Check.due("met nothing yet", c.x.met(), 0);
        Check.due("meet", c.x.meet(1, 0, u), 0);
        Check.due("no such use", c.x.meet(1, 0, 99), LinkHouse.BAD);
        Check.due("no such use", c.x.meet(1, 0, -1), LinkHouse.BAD);
        Check.due("no such build", c.x.meet(1, 1, 0), LinkHouse.BAD);
        Check.due("no such library", c.x.meet(5, 0, 0), LinkHouse.BAD);
        c.make(1, USER);
        Check.due("it does not stand", c.x.meet(1, 1, u), LinkHouse.NONE);
        Check.due("touch", c.x.touch(1, 1, u), LinkHouse.NONE);
        Check.due("touch", c.x.touch(1, 2, u), LinkHouse.BAD);
        Check.due("touch", c.x.touch(1, 0, 0), 0);
        Check.due("these leave met", c.x.met(), 13);
        Check.due("these leave met", c.out(), "a.P.m(a.F)int");
        Check.due("and looked", c.x.looked(1), 2);
        Check.due("looked", c.x.looked(0), 3);
        Check.due("looked", c.x.looked(2), LinkHouse.BAD);
        Check.due("looked", c.x.looked(-1), LinkHouse.BAD);
        c.x.pick(0, LinkHouse.NONE);
        c.x.broken();
        c.x.stale();
        c.x.choose();
        Check.due("others leave met", c.x.met(), 13);
        Check.due("and looked: numbers as they were", c.x.looked(0), 3);
        c.stand(0, "open class c.M { } " + LIB);
        Check.due("another library's class", c.x.meet(1, 0, 0), LinkHouse.NONE);
        Check.due("another library's class", c.x.touch(1, 0, 0), LinkHouse.NONE);
    }

    private static void brokenAndStale() {
        Check c = met("open class a.P { open int i; open static int s; open new(int p) { } } open class a.Q is a.P as a.F { open new() { super(1); } } "
            + "open face a.F { int f() { return 1; } static int w() { return 3; } int c = 5; } open class a.X is z.Ill { }");
        Check.due("broken", c.x.broken(), 6);
        Check.due("stale", c.x.stale(), 1);
        String all = "";
        for (int i = 0; i < 6; i++) {
            Check.due("its library", c.x.brokenAt(i, 0), 1);
            c.x.tell(1, 0, c.x.brokenAt(i, 1));
            all += c.out() + " meets " + c.x.brokenAt(i, 2) + "; ";
        }
        Check.due("which", all, "7 a.Q.m(a.F)int meets 5; 9 a.Q.t()int meets 5; 3 c.N.k:int meets 4; 11 a.Q.m(a.F)int meets 5; "
            + "11 a.Q.d()int meets 5; 12 a.F.d()int meets 5; ");
        Check.due("brokenAt", c.x.brokenAt(6, 0), LinkHouse.BAD);
        Check.due("brokenAt", c.x.brokenAt(-1, 0), LinkHouse.BAD);
        Check.due("brokenAt", c.x.brokenAt(0, 3), LinkHouse.BAD);
        Check.due("brokenAt", c.x.brokenAt(0, -1), LinkHouse.BAD);
        Check.due("a refused pick", c.x.pick(0, 9), LinkHouse.BAD);
        Check.due("leaves it", c.x.brokenAt(5, 0), 1);
        c.x.pick(0, 1);
        Check.due("none any more behind pick", c.x.brokenAt(0, 0), LinkHouse.BAD);
        c.x.pick(0, LinkHouse.NONE);
        Check.due("without the library", c.x.broken(), c.x.uses(1, 0) - 2);
        Check.due("stale without it", c.x.stale(), 1);
        c.stand(0, "open class c.N { } open class c.O { } open class c.M { static final int q = 1; int r = q; }");
        Check.due("hidden classes count no more", c.x.broken(), 0);
        Check.due("nor are they stale", c.x.stale(), 0);
    }

    private static void choosing() {
        Check c = new Check();
        Check.due("of no builds", c.x.choose(), 1);
        c.make(0, "open class a.A { open int f() { return 1; } }");
        c.x.pick(0, 0);
        c.make(2, "class c.M { int g(a.A v) { return v.f(); } }");
        c.make(0, "open class a.A { open int h() { return 1; } }");
        c.make(0, "open class a.A { }");
        Check.due("the third is tried", c.x.choose(), 3);
        Check.due("picked", c.x.picked(0), 0);
        Check.due("picked", c.x.picked(2), 0);
        Check.due("picked none", c.x.picked(1), LinkHouse.NONE);
        c.x.pick(2, LinkHouse.NONE);
        c.x.pick(0, 1);
        c.make(2, "class c.M { int g(a.A v) { return v.h(); } }");
        Check.due("the greatest of library 0 first", c.x.choose(), 3);
        Check.due("picked", c.x.picked(0), 1);
        Check.due("picked", c.x.picked(2), 1);
        c.make(2, "class c.M is a.A { int g() { return h(); } }");
        c.x.pick(0, 2);
        c.make(0, "open final class a.A { }");
        c.x.pick(0, LinkHouse.NONE);
        c.x.pick(2, LinkHouse.NONE);
        c.make(3, "class c.M { } ");
        Check.due("hidden ones break nothing, the others do", c.x.choose(), 7);
        Check.due("picked", c.x.picked(0), 1);
        Check d = new Check();
        d.stand(0, "open class a.A { }");
        d.stand(1, "class b.B { a.A v = new a.A(); }");
        d.x.pick(0, LinkHouse.NONE);
        Check.due("broken", d.x.broken(), 2);
        Check e = new Check();
        e.stand(1, "open class a.A { }");
        e.stand(0, "class b.B is a.A { }");
        e.x.pick(1, LinkHouse.NONE);
        e.make(1, "open face a.A { }");
        Check.due("one is well", e.x.choose(), 2);
        Check f = new Check();
        f.stand(1, "open class a.A { }");
        f.stand(0, "class b.B is a.A { static void m() { } }");
        f.run("b.B.m");
        f.stand(2, "class a.A { }");
        Check.due("hidden by none", f.x.broken(), 0);
        Check g = new Check();
        g.stand(1, "open class a.A { }");
        g.stand(2, "class b.B is a.A { static void m() { } }");
        g.make(0, "final class a.A { }");
        g.run("b.B.m");
        Check.due("broken", g.x.broken(), 0);
        int events = g.x.told(4);
        Check.due("nothing is well", g.x.choose(), LinkHouse.NONE);
        Check.due("the world stays", g.x.picked(0), LinkHouse.NONE);
        Check.due("the machine stays", g.x.told(4), events);
        g.x.pick(0, 0);
        Check.due("broken", g.x.broken(), 2);
        g.x.choose();
        Check.due("behind a choose that is NONE they stay", g.x.brokenAt(0, 2), 2);
    }
}
