/** Promises 30 to 40: fresh, touch, run, value, told, number, event, name, state, classOf, fieldOf. */
public final class MachineTest {
    public static void main(String[] args) {
        runAnswers();
        values();
        arithmetic();
        objects();
        calls();
        overriding();
        faces();
        bridges();
        throwing();
        starting();
        fieldsFilled();
        startFailures();
        linking();
        stepsAndDepth();
        room();
        failures();
        nulls();
        eventsAndStates();
        touching();
        fullText();
        allBridges();
        Check.end("MachineTest");
    }

    private static Check with(String text) {
        Check c = new Check();
        c.stand(0, text);
        return c;
    }

    /** What c.M.m of a library alone tells by out. */
    private static void outs(String text, String due) {
        Check c = with(text);
        Check.due("run of " + text, c.run("c.M.m"), 1);
        Check.due(text, c.numbers(), due);
    }

    private static void fails(String text, int failure) {
        Check c = with(text);
        Check.due("run of " + text, c.run("c.M.m"), -10 - failure);
        Check.due("value behind " + text, c.x.value(), 0);
    }

    private static void runAnswers() {
        Check c = with("class c.M { static int m() { return 7; } int n() { return 1; } static void o(int p) { } static int o() { return 8; } } bare class c.N { static void p() { } }");
        Check.due("run", c.run("c.M.m"), 1);
        Check.due("value", c.x.value(), 7);
        for (String none : new String[] {"c.M.n", "c.M.p", "c.X.m", "c.M", "c.M.", "c.M.m ", " c.M.m", "c.M .m", "c.M.m()", "", "c.M.m.m", "m", "z.Any.m", "c.M.new", "C.M.m", "c.M.mm", "c.M.m$"}) {
            Check.due("run of '" + none + "'", c.run(none), LinkHouse.NONE);
            Check.due("the tape is empty behind '" + none + "'", c.x.told(6), 0);
        }
        Check.due("NONE leaves the value", c.x.value(), 7);
        Check.due("and the steps", c.x.told(0), 2);
        Check.due("without params", c.run("c.M.o"), 1);
        Check.due("value", c.x.value(), 8);
        Check.due("of a bare class", c.run("c.N.p"), 1);
        Check.due("the tape is empty", c.x.told(6), 0);
        Check.due("value", c.x.value(), 0);
        c.x.pick(0, LinkHouse.NONE);
        Check.due("it does not stand", c.run("c.M.m"), LinkHouse.NONE);
        Check d = with("open class a.P { open static int s() { return 1; } } class a.Q is a.P { } face a.F { own static int t() { return 3; } int u(); }");
        Check.due("not by heirs", d.run("a.Q.s"), LinkHouse.NONE);
        Check.due("of a face", d.run("a.F.t"), 1);
        Check.due("what has no BLOCK", d.run("a.F.u"), LinkHouse.NONE);
    }

    private static void values() {
        Check c = with("class c.M { static void v() { } static c.M n() { return null; } static c.M o() { return new c.M(); } static int i() { return 0 - 5; } "
            + "static void t() { new c.M(); throw new z.Ill(); } static void f() { throw null; } }");
        Check.due("an OBJECT", c.run("c.M.o"), 1);
        Check.due("value", c.x.value(), 1);
        Check.due("thrown", c.run("c.M.t"), 2);
        Check.due("value", c.x.value(), 3);
        Check.due("a failure", c.run("c.M.f"), -23);
        Check.due("value", c.x.value(), 0);
        Check.due("below 0", c.run("c.M.i"), 1);
        Check.due("value", c.x.value(), -5);
        c.x.fresh();
        Check.due("the value stays", c.x.value(), -5);
        c.run("c.M.o");
        Check.due("null", c.run("c.M.n"), 1);
        Check.due("value", c.x.value(), 0);
        c.run("c.M.o");
        Check.due("void", c.run("c.M.v"), 1);
        Check.due("value", c.x.value(), 0);
    }

    private static void arithmetic() {
        outs("class c.M { static int b = 46341; static void m() { out b * b; out 0 - b * b - b; out 2 + 3 * 4 - 1; out (2 + 3) * 4; out 10 - 3 - 2; out 1 < 2; out 2 < 1; out 2 < 2; "
            + "out (1 < 2) + (2 == 2); out 7 == 8; out null == null; let c.M v = new c.M(); out v == null; out v == v; out v == new c.M(); out 010; } }",
            "-2147479015 2147432674 13 20 5 1 0 0 2 0 1 0 1 0 10");
        outs("class c.M { static int n; static int f(int p, int q) { n = n * 10 + p; return q; } static void m() { out f(1, 5) - f(2, 3) * f(3, 2); out f(4, 1) < f(5, 2); out f(6, 1) == f(7, 1); out n; } }",
            "-1 1 1 1234567");
        outs("class c.M { static void m() { let int i = 0; while (i < 3) { let int j = i; if (j == 1) out 9; else { out j; } i = i + 1; } if (0) out 1; if (5) out 2; if (0 - 1) { out 3; } while (0) out 4; } }", "0 9 2 2 3");
    }

    private static void objects() {
        Check c = with("open class a.P { int a1 = 5; static int s; open a.P p = this; int b1; } class a.Q is a.P { int c1 = 7; a.Q q; static void m() { let a.Q v = new a.Q(); v.q = v; v.b1 = v.a1 + 1; new a.P(); new z.Ill(); new z.Any(); } }");
        Check.due("run", c.run("a.Q.m"), 1);
        Check.due("OBJECTS", c.x.told(2), 4);
        Check.due("their fields", c.x.told(3), 5 + 3 + 1);
        int[] due = {5, 1, 6, 7, 1};
        for (int k = 0; k < 5; k++) {
            Check.due("field " + k, c.x.fieldOf(1, k), due[k]);
        }
        Check.due("field beyond", c.x.fieldOf(1, 5), 0);
        Check.due("field below", c.x.fieldOf(1, -1), 0);
        Check.due("another one's", c.x.fieldOf(2, 0), 5);
        Check.due("another one's", c.x.fieldOf(2, 1), 2);
        Check.due("another one's", c.x.fieldOf(2, 3), 0);
        Check.due("of none", c.x.fieldOf(0, 0), 0);
        Check.due("of none", c.x.fieldOf(5, 0), 0);
        Check.due("class", c.x.classOf(1), 3);
        Check.due("class", c.x.classOf(2), 2);
        Check.due("class", c.x.classOf(3), 1);
        Check.due("class", c.x.classOf(4), 0);
        Check.due("class of none", c.x.classOf(5), LinkHouse.BAD);
        Check.due("class of none", c.x.classOf(0), LinkHouse.BAD);
        Check.due("class of none", c.x.classOf(-1), LinkHouse.BAD);
        c.x.fresh();
        Check.due("class of none", c.x.classOf(1), LinkHouse.BAD);
        outs("open class a.P { open int x = 1; int y = x + 1; open new(int p) { out x * 10 + y; x = p; f(); } open void f() { out 1; } } class c.M is a.P { int z = 3; int w = t(z); "
            + "static int t(int p) { out p; return p; } new() { super(t(4)); out z; } open void f() { out z + 100; z = 50; } static void m() { let c.M v = new c.M(); out v.x; out v.z; out v.w; } }", "4 12 100 3 3 4 3 3");
        outs("class c.M { static int n = 3; int x; static c.M mk(int p) { out p; return new c.M(); } static int v(int p) { out p; return p; } static void m() { mk(1).x = v(2); c.M.n = v(3); out c.M.n; "
            + "let c.M a1 = mk(4); a1.x = 9; let c.M b1 = a1; out b1.x; b1.x = b1.x + 1; out a1.x; out n; n = n + 1; out n; } }", "1 2 3 3 4 9 10 3 4");
    }

    private static void calls() {
        outs("class c.M { static int f(int p) { p = p + 1; return p; } static void m() { let int p = 3; out f(p); out p; out g(1, 2); out k(4); } static int g(int a1, int b1) { return a1 - b1; } "
            + "static int k(int p) { if (p == 0) return 0; return p + k(p - 1); } }", "4 3 -1 10");
        outs("class c.M { static int f(z.Any p) { return 1; } static int f(c.M p) { return 2; } static int f(c.N p) { return 3; } static void m() { let z.Any v = new c.N(); out f(v); out f(new c.N()); out f(new c.M()); out f((c.M) v); } } "
            + "class c.N is c.M { }", "1 3 2 2");
        outs("class c.M { int x = 2; int f() { return x + g(); } int g() { return x * 10; } static void m() { out new c.M().f(); out new c.N().f(); } } class c.N is c.M { int g() { return super.g() + 1; } }", "22 23");
    }

    private static void overriding() {
        Check c = new Check();
        c.stand(0, "open class a.P { int f() { return 1; } kin int g() { return 1; } own int h() { return 1; } open int all() { return f() * 100 + g() * 10 + h(); } open int i() { return 1; } }");
        c.stand(1, "class b.Q is a.P { int f() { return 2; } kin int g() { return 2; } int h() { return 2; } static void m() { out new b.Q().all(); let a.P v = new b.Q(); out v.all(); } open int i() { return 2; } }");
        Check.due("run", c.run("b.Q.m"), 1);
        Check.due("only what is LET is overridden", c.numbers(), "121 121");
        Check d = new Check();
        d.stand(0, "open class a.P { int f() { return 1; } open int all() { return f(); } } open class a.Q is a.P { open int f() { return 2; } }");
        d.stand(1, "class b.R is a.Q { open int f() { return 3; } static void m() { out new b.R().all(); } } ");
        Check.due("run", d.run("b.R.m"), 1);
        Check.due("by one between", d.numbers(), "3");
        Check e = new Check();
        e.stand(0, "open class a.P { int f() { return 1; } open int all() { return f(); } } open class a.Q is a.P { kin int f() { return 2; } } open class b.Q is a.P { int f() { return 5; } } ");
        e.stand(1, "class c.R is a.Q { open int f() { return 3; } static void m() { out new c.R().all(); out new b.S().all(); } } open class b.S is b.Q { int f() { return 6; } }");
        Check.due("run", e.run("c.R.m"), 1);
        Check.due("by a kin one between, not by one of another package", e.numbers(), "3 1");
    }

    private static void faces() {
        outs("face c.F { int f(); int g() { return f() * 2; } own int h() { return 5; } int i() { return h(); } static int s() { return 6; } int c = 8; } "
            + "face c.G as c.F { int g() { return c.F.super.g() + 1; } } class c.P { open int f() { return 10; } } class c.M is c.P as c.G { static void m() { let c.F v = new c.M(); out v.f(); out v.g(); out v.i(); out c.F.s(); "
            + "out c; out v ask c.G; out v ask c.P; out v ask z.Any; out ((c.P) v).f(); } }", "10 21 5 6 8 1 1 1 10");
        outs("face c.F { int g() { return 1; } } class c.P { open int g() { return 2; } } class c.M is c.P as c.F { static void m() { let c.F v = new c.M(); out v.g(); out null ask c.F; } }", "2 0");
    }

    private static void bridges() {
        Check c = with("open class a.P { open z.Any f(int p) { return null; } } class a.Q is a.P { open a.Q f(int p) { if (p == 0) return null; return this; } "
            + "static void m() { let a.P v = new a.Q(); out v.f(1) == v; out v.f(0) == null; } }");
        Check.due("run", c.run("a.Q.m"), 1);
        Check.due("by the bridge", c.numbers(), "1 1");
        Check.due("it is a call", c.x.told(0), 1 + 3 + (1 + 2 + 2) + (1 + 2 + 2));
    }

    private static void throwing() {
        outs("class c.E is z.Ill { int k = 3; } class c.G is z.Ill { } class c.M { static int t(int p) { out p; if (p == 1) throw new c.E(); if (p == 2) throw new c.G(); return p; } "
            + "static void a1(int p) { try { out t(p) + 10; } catch (c.E e) { out e.k; } out 99; } static void m() { a1(0); a1(1); try { a1(2); } catch (z.Ill e) { e.code = 4; out e.code; } "
            + "try { try { throw new c.G(); } catch (c.E e) { out 1; } } catch (c.G e) { out 2; } try { try { throw new c.E(); } catch (c.E e) { throw e; } } catch (z.Ill e) { out e == null; } "
            + "let int i = 0; while (i < 2) { try { i = i + 1; t(1); } catch (c.E q) { out i; } } out r(); } static int r() { try { return 5; } catch (c.E e) { return 6; } } }",
            "0 10 99 1 3 99 2 4 2 0 1 1 1 2 5");
        outs("class c.E is z.Ill { } class c.M { static void t() { try { out 1; } catch (z.Ill e) { out 2; } throw new c.E(); } static void m() { try { t(); } catch (c.E e) { out 3; } "
            + "try { try { out 4; } catch (c.E e) { out 5; } throw new c.E(); } catch (c.E e) { out 6; } let int i = 0; while (i < 40) { try { i = i + 1; } catch (c.E e) { } } out i; } }", "1 3 4 6 40");
        Check c = with("class c.E is z.Ill { c.E n; } class c.M { static void m() { try { n(); } catch (c.E e) { let c.E f = new c.E(); f.n = e; throw f; } } static void n() { throw new c.E(); } }");
        Check.due("thrown", c.run("c.M.m"), 2);
        Check.due("value", c.x.value(), 2);
        Check.due("its field", c.x.fieldOf(2, 1), 1);
        Check d = new Check();
        d.stand(0, "open class a.E is z.Ill { }");
        d.stand(1, "class c.M { static void m() { try { throw new z.Ill(); } catch (a.E e) { out 1; } } static void n() { out 2; } }");
        d.make(0, "open class a.E { }");
        d.x.pick(0, 1);
        Check.due("a catch is looked at by LINKING", d.run("c.M.n"), -21);
        d.make(0, "class a.E is z.Ill { }");
        d.x.pick(0, 2);
        Check.due("but not whether it is LET", d.run("c.M.n"), 1);
        Check.due("that is asked when something comes", d.run("c.M.m"), -12);
    }

    private static void starting() {
        outs("class c.M is c.P as c.F { static int x = o(3); static final int k = 9; start { out k; x = x + 1; } static int y = o(x); static final int l = o(20); static int o(int p) { out p; return p; } static void m() { out x; out l; } } "
            + "class c.P { start { out 1; } static int q = c.M.k + c.M.o(0); } face c.F as c.G { int a1 = c.M.o(5); int f() { return 1; } } face c.G { int b1 = c.M.o(6); int g() { return 1; } static int s() { return 3; } }",
            "1 0 6 5 3 9 4 20 4 20");
        outs("class c.M { static void m() { out c.A.v; out c.B.w; } } class c.A { static int v = c.B.w + 1; } class c.B { static int w = c.A.v + 1; }", "2 1");
        outs("class c.M { static void m() { out c.A.k; let c.A v = null; out v == null; out null ask c.A; out c.B.p; c.B.s(); new c.C(); out 5; c.A.t = 3; } } class c.A { static int t; static final int k = 1; start { out 77; } } "
            + "class c.B is c.P { start { out 88; } } class c.P { static int p = 3; static void s() { out 4; } start { out 66; } } class c.C { start { out 55; } }", "1 1 0 66 3 4 55 5 77");
        outs("class c.M { static void m() { let c.F v = new c.A(); out 1; c.F.s(); out c.G.k2; } } face c.F { int x = c.O.o(7); int f(); static void s() { out 2; } } face c.G as c.F { int k2 = c.O.o(8); } class c.A as c.F { open int f() { return 1; } } class c.O { static int o(int p) { out p; return p; } }", "1 7 2 8 8");
    }

    /** A field's own E is put into the field of the class at hand, whatever has its NAME elsewhere. */
    private static void fieldsFilled() {
        Check c = with("class c.A as c.F { int x = 1; int y = x + 1; static int s = o(3); static final int k = 4; int w; static int o(int p) { out p; return p; } } "
            + "class c.B is c.A { final int x = o(super.g() + y); c.A v = this; static int s = o(5); int u = k; static c.B t = new c.B(); static final int k = o(7); new() { super(); w = x; } new(int p) { out p; } } "
            + "face c.F { int y = 8; int g() { return 9; } } class c.M { static void m() { new c.B(6); out c.A.s; out c.B.s; out c.B.k; out c.B.t.x; out c.B.t.w; } }");
        Check.due("run", c.run("c.M.m"), 1);
        Check.due("numbers", c.numbers(), "3 5 11 7 11 6 3 5 7 11 11");
        Check.due("objects", c.x.told(2), 2);
        Check.due("fields", c.x.told(3), 12);
        int[] due = {1, 2, 11, 11, 1, 0, 1, 2, 0, 11, 2, 7};
        for (int i = 0; i < due.length; i++) {
            Check.due("field " + i, c.x.fieldOf(1 + i / 6, i % 6), due[i]);
        }
        Check d = with("class c.A { int x = new z.Ill().code + o(1); static int y = z + 2; static int z = o(y); static int o(int p) { out p; if (p == 1) throw new z.Ill(); return p; } "
            + "static void m() { try { new c.A(); } catch (z.Ill e) { out 5; } out y; out z; } }");
        Check.due("run", d.run("c.A.m"), 1);
        Check.due("numbers", d.numbers(), "2 1 5 2 2");
        Check.due("an E that threw puts nothing", d.x.fieldOf(1, 0), 0);
    }

    private static void startFailures() {
        Check c = with("class c.A { start { throw new z.Ill(); } static int x; } class c.B { static int x = c.A.x; } class c.D is c.E { static int x; } class c.E { start { let c.E e = null; e.y = 1; } int y; } "
            + "class c.M { static void a1() { out c.A.x; } static void b1() { try { out c.B.x; } catch (z.Ill e) { out 1; } } static void d1() { out c.D.x; } static void e1() { new c.E(); } }");
        Check.due("it threw", c.run("c.M.b1"), -18);
        Check.due("nothing catches that", c.numbers(), "");
        Check.due("both failed", c.events(), "601 602 603 604 301 302 303 201 202 203 207 307");
        Check.due("never started", c.run("c.M.a1"), -19);
        Check.due("never started", c.run("c.M.b1"), -19);
        Check.due("a failure stays what it is", c.run("c.M.d1"), -23);
        Check.due("never started", c.run("c.M.e1"), -19);
        Check.due("state", c.x.state(4), 7);
        Check.due("state", c.x.state(5), 7);
        Check.due("state", c.x.state(6), 4);
        Check.due("fresh", c.x.fresh(), 5);
        Check.due("again", c.run("c.M.a1"), -18);
        Check d = with("class c.A { start { throw new z.Ill(); } static void m() { } }");
        Check.due("its own START", d.run("c.A.m"), -18);
        Check.due("steps", d.x.told(0), 1);
        Check.due("never started", d.run("c.A.m"), -19);
        Check.due("steps", d.x.told(0), 0);
    }

    private static void linking() {
        Check c = new Check();
        c.stand(0, "open class a.P { open int f() { return 1; } } open class a.Q is a.P { } open class a.R { open static void t(a.P p) { } }");
        c.stand(1, "class b.A is a.P { open int f() { return 2; } static void m() { out 1; } } class b.B { static void m() { a.R.t(new a.Q()); } static void n() { new b.A(); } } "
            + "class b.C is b.A { static void m() { out 2; } }");
        c.make(0, "open class a.P { open final int f() { return 1; } } open class a.Q { } open class a.R { open static void t(a.P p) { } }");
        c.x.pick(0, 1);
        Check.due("it overrides a final one", c.run("b.A.m"), -13);
        Check.due("events", c.events(), "201 501 202 506");
        Check.due("state", c.x.state(5), 6);
        Check.due("it fails by that again", c.run("b.A.m"), -13);
        Check.due("its heirs too", c.run("b.C.m"), -13);
        Check.due("it does not fit any more", c.run("b.B.n"), -21);
        Check.due("events", c.events(), "201 501 202 506 701 706 601 301 606");
        Check.due("fresh", c.x.fresh(), 5);
        c.make(0, "open class a.P { }");
        c.x.pick(0, 2);
        Check.due("not there", c.run("b.B.m"), -11);
        c.x.pick(0, LinkHouse.NONE);
        Check.due("it can't be LOADED", c.run("b.C.m"), -11);
        Check.due("events", c.events(), "205 405");
        Check.due("state", c.x.state(2), 5);
        Check.due("fresh", c.x.fresh(), 0);
        Check d = new Check();
        d.stand(0, "open class a.P { int f() { return 1; } }");
        d.stand(1, "class b.A is a.P { int f() { return 2; } static void m() { out 1; } }");
        d.make(0, "open class a.P { final int f() { return 1; } }");
        d.x.pick(0, 1);
        Check.due("of another package it overrides nothing", d.run("b.A.m"), 1);
    }

    private static void stepsAndDepth() {
        Check c = with("class c.M { static int m() { if (1) { out 1; } else out 2; { { out 3; } } let int i = 0; while (i < 2) i = i + 1; try { n(); } catch (z.Ill e) { } return 4; } static void n() { throw new z.Ill(); } "
            + "static void o() { new c.N(); } static void d() { c.M.e(23); } static void e(int p) { out p; if (0 < p) e(p - 1); } static void f() { e(22); } static void lp() { while (1) { } } "
            + "static void g() { let int i = 0; while (i < 6664) i = i + 1; } static void h() { g(); n2(); } static void n2() { } static void h2() { g(); c.N.s(); } } class c.N { int x = 1; int y = t(); int t() { return 3; } static void s() { } }");
        c.run("c.M.m");
        Check.due("steps", c.x.told(0), 1 + 2 + 1 + 1 + (1 + 3 + 2) + (1 + 1 + 1 + 1) + 1);
        c.run("c.M.o");
        Check.due("steps of a maker", c.x.told(0), 2 + 1 + 2);
        Check.due("24 calls", c.run("c.M.f"), 1);
        Check.due("outs", c.x.told(1), 23);
        Check.due("25 calls", c.run("c.M.d"), -25);
        Check.due("outs", c.x.told(1), 23);
        Check.due("steps", c.x.told(0), 2 + 23 * 4);
        Check.due("the 20001st step", c.run("c.M.lp"), -24);
        Check.due("is not counted", c.x.told(0), 20000);
        c.run("c.M.g");
        Check.due("steps", c.x.told(0), 1 + 1 + 1 + 1 + 6664 * 2);
        startsAreDeep();
        tooManySteps();
    }

    /** Each class in a row STARTS its PARENT within its own START. */
    private static void startsAreDeep() {
        for (int n = 24; n <= 25; n++) {
            Check c = new Check();
            for (int lib = 0; lib < 3; lib++) {
                StringBuilder text = new StringBuilder();
                for (int i = 0; i < 10 && lib * 10 + i < n; i++) {
                    int k = lib * 10 + i;
                    text.append("open class a.C" + k + (k == 0 ? "" : " is a.C" + (k - 1)) + " { open static void m() { } } ");
                }
                c.stand(lib, text.toString());
            }
            Check.due(n + " STARTS", c.run("a.C" + (n - 1) + ".m"), n == 24 ? 1 : -25);
            Check.due("the last in", c.x.state(2), n == 24 ? 4 : 2);
            Check.due("the next", c.x.state(3), n == 24 ? 4 : 7);
        }
    }

    private static void tooManySteps() {
        // 1 call, 2 steps, then 9998 rounds of two and one more asking: 20000
        Check c = with("class c.M { static int i; static void m() { while (i < 9998) i = i + 1; out 5; } static void n() { i = 0; while (i < 9998) { i = i + 1; } } static void k() { i = 0; while (i < 9997) i = i + 1; p(); } static void p() { } }");
        Check.due("run", c.run("c.M.m"), 1);
        Check.due("steps", c.x.told(0), 20000);
        Check.due("out", c.numbers(), "5");
        Check.due("one more", c.run("c.M.n"), 1);
        Check.due("steps", c.x.told(0), 20000);
        Check.due("a call", c.run("c.M.k"), 1);
        Check.due("steps", c.x.told(0), 20000);
    }

    private static void room() {
        Check c = with("class c.M { static void m() { while (1) new c.M(); } static void n() { while (1) new c.N(); } } class c.N is c.O { int a1; int a2; int a3; int a4; int a5; int a6; } "
            + "class c.O { int b1; int b2; int b3; int b4; int b5; int b6; static int c1; int b7; }");
        Check.due("the 201st", c.run("c.M.m"), -26);
        Check.due("OBJECTS", c.x.told(2), 200);
        Check.due("no more in another run", c.run("c.M.m"), -26);
        Check.due("OBJECTS", c.x.told(2), 200);
        Check.due("fresh", c.x.fresh(), 1);
        Check.due("OBJECTS", c.x.told(2), 0);
        Check.due("more than 2000 fields", c.run("c.M.n"), -26);
        Check.due("OBJECTS", c.x.told(2), 153);
        Check.due("fields", c.x.told(3), 153 * 13);
        StringBuilder twenty = new StringBuilder();
        for (int i = 0; i < 20; i++) {
            twenty.append("int f" + i + "; ");
        }
        Check e = with("class c.N { " + twenty + "} class c.O { int x; } class c.M { static void m() { let int i = 0; while (i < 100) { new c.N(); i = i + 1; } out i; } static void n() { new z.Any(); } static void o() { new c.O(); } }");
        Check.due("2000 fields", e.run("c.M.m"), 1);
        Check.due("fields", e.x.told(3), 2000);
        Check.due("one without", e.run("c.M.n"), 1);
        Check.due("one more", e.run("c.M.o"), -26);
        Check.due("fields", e.x.told(3), 2000);
        Check d = with("class c.M { static void m() { let int i = 0; while (i < 130) { out i; i = i + 1; } } }");
        Check.due("run", d.run("c.M.m"), 1);
        Check.due("100 numbers", d.x.told(1), 100);
        Check.due("number", d.x.number(99), 99);
        Check.due("number beyond", d.x.number(100), 0);
        Check.due("number below", d.x.number(-1), 0);
    }

    private static void failures() {
        String n = "class c.N { int x; int f() { return 1; } static c.N g() { return null; } } ";
        fails(n + "class c.M { static void m() { out c.N.g().x; } }", 13);
        fails(n + "class c.M { static void m() { c.N.g().x = 1; } }", 13);
        fails(n + "class c.M { static void m() { c.N.g().f(); } }", 13);
        fails(n + "class c.M { static void m() { throw null; } }", 13);
        fails(n + "class c.M { static void m() { let z.Any v = new c.N(); let c.M w = (c.M) v; } }", 12);
        fails("face c.F { int f(); } class c.M { static void m() { let c.F v = null; v.f(); } }", 13);
        Check c = new Check();
        c.stand(0, "open face a.F { int f(); int g(); } open class a.A as a.F { open int f() { return 1; } open int g() { return 2; } open int n; } open class a.B { open a.A v = new a.A(); }");
        c.stand(1, "class c.M { static void m() { let a.F v = new a.B().v; out v.f(); out v.g(); } static void n() { let a.F v = new c.N(); out v.g(); } static void o() { let a.A v = new c.O(); v.n = 3; } } "
            + "class c.N as a.F { open int f() { return 3; } open int g() { return 4; } } class c.O is a.A { open int g() { return 5; } }");
        String[] texts = {"open face a.F { int f(); int g(); } open class a.A { open int f() { return 1; } } open class a.B { open a.A v = new a.A(); }",
            "open face a.F { int f() { return 1; } } open class a.A as a.F { open final int n; } open class a.B { open a.A v = new a.A(); }",
            "open face a.F { int f(); static int g() { return 1; } } open bare class a.A as a.F { } open class a.B { open a.A v; }",
            "open face a.F as a.G, a.H { int f() { return 5; } } open face a.G { int g() { return 1; } } open face a.H { int g() { return 1; } } open bare class a.A as a.F { } open class a.B as a.F { open static a.A v; open int g() { return 1; } }",
            "open class a.F { int f() { return 1; } } open class a.A { } open class a.B { open a.A v; }"};
        int[][] due = {{-13, 1, -14}, {-15, -15, -12}, {-23, -13, -14}, {-13, 1, -14}, {-21, -21, -21}};
        String[] runs = {"c.M.m", "c.M.n", "c.M.o"};
        for (int i = 0; i < texts.length; i++) {
            Check.due(texts[i], c.make(0, texts[i]), i + 1);
            c.x.pick(0, i + 1);
            for (int k = 0; k < 3; k++) {
                c.x.fresh();
                Check.due(runs[k] + " with " + texts[i], c.run(runs[k]), due[i][k]);
            }
        }
    }

    /** CAST and ask of null ask no USE. */
    private static void nulls() {
        Check c = new Check();
        c.stand(0, "open class a.A { }");
        c.stand(1, "class c.M { static z.Any n() { return null; } static void m() { let z.Any v = (a.A) n(); out v == null; out n() ask a.A; } static void k() { let z.Any v = (a.A) new c.M(); } "
            + "static void l() { out new c.M() ask a.A; } }");
        Check.due("run", c.run("c.M.m"), 1);
        Check.due("no use was asked", c.events(), "301 302 303 304");
        c.x.pick(0, LinkHouse.NONE);
        Check.due("run", c.run("c.M.m"), 1);
        Check.due("outs", c.numbers(), "1 0");
        Check.due("cast", c.run("c.M.k"), -11);
        Check.due("ask", c.run("c.M.l"), -11);
    }

    private static void eventsAndStates() {
        Check c = with("class c.M { static void m() { out 1; } } class c.N { }");
        Check.due("state", c.x.state(2), 0);
        c.run("c.M.m");
        Check.due("events", c.events(), "201 202 203 204");
        Check.due("event beyond", c.x.event(4), LinkHouse.BAD);
        Check.due("event below", c.x.event(-1), LinkHouse.BAD);
        Check.due("told", c.x.told(4), 4);
        Check.due("state", c.x.state(2), 4);
        Check.due("state", c.x.state(3), 0);
        Check.due("state", c.x.state(4), LinkHouse.BAD);
        Check.due("state", c.x.state(-1), LinkHouse.BAD);
        Check.due("name", c.x.name(2), 3);
        Check.due("name", c.out(), "c.M");
        Check.due("name", c.x.name(4), LinkHouse.BAD);
        Check.due("name", c.x.name(-1), LinkHouse.BAD);
        c.run("c.M.m");
        Check.due("once", c.x.told(4), 4);
        c.x.pick(0, 7);
        Check.due("a refused pick leaves it", c.x.told(4), 4);
        c.make(1, "");
        Check.due("a make leaves it", c.x.told(4), 4);
        c.x.pick(0, 0);
        Check.due("pick makes it fresh", c.x.told(4), 0);
        c.run("c.M.m");
        c.x.choose();
        Check.due("choose makes it fresh", c.x.told(4), 0);
        Check.due("steps stay", c.x.told(0), 2);
        Check.due("numbers stay", c.x.number(0), 1);
        c.run("c.M.m");
        Check.due("fresh", c.x.fresh(), 1);
        Check.due("fresh", c.x.fresh(), 0);
        Check.due("fresh makes it fresh", c.x.told(4), 0);
    }

    private static void touching() {
        Check c = new Check();
        c.stand(0, "open class a.P { open int x; } open class a.Q is a.P { }");
        c.stand(1, "class c.M { int f(a.Q q) { return q.x; } static final int k = 3; static int l = k; } class c.N is a.Q { }");
        int u = c.useOf(1, 0, "3 a.Q.x:int");
        Check.due("touch", c.x.touch(1, 0, u), 0);
        Check.due("events", c.events(), "401 201 301");
        Check.due("a copy", c.x.touch(1, 0, c.useOf(1, 0, "16 c.M.k=3")), 0);
        Check.due("events", c.x.told(4), 3);
        Check.due("again", c.x.touch(1, 0, u), 0);
        Check.due("events", c.x.told(4), 3);
        Check.due("touch", c.x.touch(1, 0, c.useOf(1, 0, "18 a.Q")), 0);
        Check.due("events", c.events(), "401 201 301 501");
        Check.due("state", c.x.state(2), 1);
        Check.due("no run was it", c.x.told(0), 0);
        Check.due("no met", c.x.met(), 0);
        Check.due("fresh", c.x.fresh(), 4);
        Check.due("touch", c.x.touch(1, 0, 99), LinkHouse.BAD);
        Check.due("touch", c.x.touch(1, 0, -1), LinkHouse.BAD);
        Check.due("touch", c.x.touch(0, 1, 0), LinkHouse.BAD);
        c.x.pick(0, LinkHouse.NONE);
        Check.due("not there", c.x.touch(1, 0, u), 1);
        Check.due("not LOADED", c.x.touch(1, 0, c.useOf(1, 0, "18 a.Q")), 1);
        Check.due("events", c.events(), "201 305");
        Check.due("it fails by that again", c.x.touch(1, 0, c.useOf(1, 0, "18 a.Q")), 1);
        Check.due("events", c.x.told(4), 2);
        c.x.pick(1, LinkHouse.NONE);
        Check.due("it does not stand", c.x.touch(1, 0, u), LinkHouse.NONE);
    }

    /** A text of 700 tokens that has as much that runs as it can have. */
    private static void fullText() {
        String most = "class c.M{int x;int y=5;static int m(){let c.M a=new c.M();a.f();return a.x;}void f(){" + Check.times("x=y;", 163) + "out x;}}";
        Check c = with(most);
        Check.due("run of 700 tokens", c.run("c.M.m"), 1);
        Check.due("value", c.x.value(), 5);
        Check.due("steps", c.x.told(0), 170);
        Check.due("numbers", c.numbers(), "5");
        Check.due("uses", c.uses(0, 0, 0), "1 c.M; 2 c.M.new(); 7 c.M.f()void; 3 c.M.x:int; 3 c.M.y:int; 4 c.M.x:int");
        Check.due("701 tokens", c.make(0, most + "class"), -13);
        Check.due("its place", c.x.place(), most.length());
    }

    /** Twelve classes with twelve BRIDGES each, and each of them runs. */
    private static void allBridges() {
        StringBuilder above = new StringBuilder();
        StringBuilder heirs = new StringBuilder();
        for (char n = 'A'; n <= 'L'; n++) {
            String m = " m(int p,int q,int r,int s){return null;}}";
            above.append("open class a.").append(n).append(n == 'A' ? "" : " is a." + (char) (n - 1)).append("{open a.").append(n).append(m);
            heirs.append("open class b.").append(n).append(" is a.L{open b.").append(n).append(m);
        }
        Check c = with(above.toString());
        c.stand(1, heirs.toString());
        Check.due("uses", c.x.uses(1, 0), 180);
        for (int k = 0; k < 12; k++) {
            Check.due("members of class " + k, c.x.members(1, 0, k), 14);
            char n = (char) ('A' + k);
            c.stand(2 + k / 8, "class c.M{static void m(){let a.A t=new b." + n + "();t.m(1,2,3,4);out t.m(1,2,3,4)==null;}}");
            Check.due("run", c.run("c.M.m"), 1);
            Check.due("steps", c.x.told(0), 23);
            Check.due("numbers", c.numbers(), "1");
            c.x.pick(2 + k / 8, LinkHouse.NONE);
        }
        Check.due("the last bridge", c.member(1, 0, 11, 13), "bridge open a.A m(int,int,int,int)");
    }
}
