/** Part 2 of the document: the built in, PARENTS and FACES that lack or come round, what FITS, ACCESS, FIELDS, what is SELECTED. */
public final class EdgesOfClassesTest {
    public static void main(String[] args) {
        builtIn();
        parents();
        allFacesInOrder();
        notThere();
        parentsComeRound();
        facesComeRound();
        fits();
        typesThatAreNotThere();
        membersOfTypesThatAreNotThere();
        letClasses();
        access();
        kinNamedBy();
        makersAccess();
        nests();
        theField();
        fieldNotLet();
        twiceNamed();
        overrides();
        mostSpecial();
        selected();
        Check.end("EdgesOfClassesTest");
    }

    private static void fault(int fault, String text) {
        Check.fault("", fault, text);
    }

    private static Check fine(String text) {
        return Check.fine("", text);
    }

    private static void outs(String text, String due) {
        Check c = new Check();
        c.stand(0, text);
        Check.due("run of " + text, c.run("c.M.m"), 1);
        Check.due(text, c.numbers(), due);
    }

    private static void fails(String text, int failure) {
        Check c = new Check();
        c.stand(0, text);
        Check.due("run of " + text, c.run("c.M.m"), -10 - failure);
    }

    /** z.Any has a maker alone, z.Ill its code too; their makers do nothing, and are no calls. */
    private static void builtIn() {
        Check c = new Check();
        Check.due("classes of THE WORLD", c.x.told(5), 2);
        for (int k = 0; k < 2; k++) {
            Check.due("its name", c.x.name(k), 5);
            Check.due("its name", c.out(), k == 0 ? "z.Any" : "z.Ill");
            Check.due("its state", c.x.state(k), 4);
        }
        c.stand(0, "class c.M { static void m() { new z.Any(); let z.Ill v = new z.Ill(); out v.code; v.code = 0 - 3; out v.code; let z.Any w = v; } static void d(int n) { if (n) d(n - 1); else { new z.Any(); new z.Ill(); new c.M(); } } "
            + "static void d24() { d(22); } static void d23() { d(21); } }");
        Check.due("uses", c.uses(0, 0, 0), "1 z.Any; 2 z.Any.new(); 1 z.Ill; 2 z.Ill.new(); 3 z.Ill.code:int; 4 z.Ill.code:int; 9 c.M.d(int)void; 1 c.M; 2 c.M.new()");
        Check.due("met", c.meet(0, 0, "1 z.Any"), "0  []");
        Check.due("met", c.meet(0, 0, "2 z.Any.new()"), "0 z.Any.new() [z.Any]");
        Check.due("met", c.meet(0, 0, "2 z.Ill.new()"), "0 z.Ill.new() [z.Ill]");
        Check.due("met", c.meet(0, 0, "4 z.Ill.code:int"), "0 z.Ill.code:int [z.Ill]");
        Check.due("run", c.run("c.M.m"), 1);
        Check.due("numbers", c.numbers(), "0 -3");
        Check.due("steps", c.x.told(0), 1 + 6);
        Check.due("OBJECTS", c.x.told(2), 2);
        Check.due("their fields", c.x.told(3), 1);
        Check.due("a z.Any", c.x.classOf(1), 0);
        Check.due("has no field", c.x.fieldOf(1, 0), 0);
        Check.due("a z.Ill", c.x.classOf(2), 1);
        Check.due("has a code", c.x.fieldOf(2, 0), -3);
        Check.due("no events of theirs", c.events(), "201 202 203 204");
        Check.due("within 23 calls all can be made", c.run("c.M.d23"), 1);
        Check.due("OBJECTS", c.x.told(2), 5);
        Check.due("within 24 what is no call can", c.run("c.M.d24"), -25);
        Check.due("OBJECTS", c.x.told(2), 8);
        Check.due("classes that were LOADED", c.x.fresh(), 1);
        fault(11, "class a.A { int f() { return new z.Any().@code; } }");
        fault(12, "class a.A { void f() { new z.Any().@f(); } }");
        fault(12, "class a.A { void f() { new z.Ill().@code(); } }");
        fault(18, "class a.A { void f() { new @z.Any(1); } }");
        fault(18, "class a.A { void f() { new @z.Ill(1); } }");
        fault(14, "class a.A { int x = z.Ill.@code; }");
        fault(4, "open class @z.Any { }");
        fault(4, "open class @z.Ill { }");
        fault(4, "open class @z.Other { }");
        fault(5, "class a.A as @z.Any { }");
        fault(7, "class a.A { @z.Al x; }");
        fine("open class a.A is z.Any { } open class a.B is z.Ill { int f() { return code + this.code; } }");
        fault(11, "open class a.A is z.Any { int f() { return @code; } }");
    }

    /** The PARENT is what 'is' tells, else z.Any; a face has none. */
    private static void parents() {
        Check c = fine("class a.A { } class a.B is z.Any { } class a.C is a.A { } face a.F { int x = 1; void g(); }");
        Check.due("uses", c.uses(1, 0, 0), "");
        Check.due("uses", c.uses(1, 0, 1), "18 z.Any");
        Check.due("uses", c.uses(1, 0, 2), "18 a.A; 2 a.A.new()");
        Check d = new Check();
        d.stand(0, "open class a.A { open int x; open int m() { return 1; } } open face a.F { int x = null == null; int m(); }");
        d.stand(1, "class b.B { void f(a.A p, a.F q) { out p.x; out p.m(); out a.F.x; q.m(); } }");
        d.make(0, "open class a.A { } open face a.F { }");
        d.x.pick(0, 1);
        Check.due("a class", d.meet(1, 0, "3 a.A.x:int"), "4  [a.A z.Any]");
        Check.due("a class", d.meet(1, 0, "7 a.A.m()int"), "5  [a.A z.Any]");
        Check.due("a face", d.meet(1, 0, "5 a.F.x:int"), "4  [a.F]");
        Check.due("a face", d.meet(1, 0, "8 a.F.m()int"), "5  [a.F]");
    }

    /** For each of its FACES in order that, then ALL FACES of it; then ALL FACES of its PARENT; each where it comes first. */
    private static void allFacesInOrder() {
        String faces = "open face a.F as a.H { } open face a.G as a.H, a.J { } open face a.H { } open face a.I { } open face a.J as a.I { } open class a.P as a.K, a.F { } open face a.K { } ";
        Check c = new Check();
        c.stand(0, faces.replace("face a.K { ", "face a.K { int y = 1 == null ask a.K; int m(); ").replace("class a.P", "bare class a.P") + "open bare class a.X is a.P as a.F, a.G { }");
        c.stand(1, "class b.B { void f(a.X p) { out a.X.y; out p.m(); } }");
        Check.due("it is found", c.meet(1, 0, "7 a.X.m()int"), "0 a.K.m()int [a.X a.P z.Any a.F a.H a.G a.J a.I a.K]");
        Check.due("it is found", c.meet(1, 0, "5 a.X.y:int"), "0 a.K.y:int [a.X a.F a.H a.G a.J a.I a.P a.K]");
        c.make(0, faces + "open class a.X is a.P as a.F, a.G { }");
        c.x.pick(0, 1);
        Check.due("methods", c.meet(1, 0, "7 a.X.m()int"), "5  [a.X a.P z.Any a.F a.H a.G a.J a.I a.K]");
        Check.due("fields: none is looked at twice", c.meet(1, 0, "5 a.X.y:int"), "4  [a.X a.F a.H a.G a.J a.I a.P a.K z.Any]");
        // The first of those that have it, at the same place.
        c.make(0, faces.replace("face a.I { }", "face a.I { int m(); }").replace("face a.H { }", "face a.H { int m(); }") .replace("class a.P", "bare class a.P") + "open bare class a.X is a.P as a.G, a.F { }");
        c.x.pick(0, 2);
        Check.due("the first", c.meet(1, 0, "7 a.X.m()int"), "0 a.H.m()int [a.X a.P z.Any a.G a.H a.J a.I a.F a.K]");
    }

    /** Of a C that is not there nothing comes. */
    private static void notThere() {
        Check c = new Check();
        c.stand(0, "open face f.F { int m(); int x = 1; } open class p.P { open int n() { return 1; } open int y; }");
        c.stand(1, "open face a.G { int g(); int z = 2; } open bare class a.A as f.F, a.G { } open class a.B is p.P { open int own1() { return y; } } open face a.H as f.F { } open class a.C is a.B { }");
        c.x.pick(0, LinkHouse.NONE);
        made(c, 0, "class c.C { int f(a.A v) { return v.g() + a.A.z; } }");
        made(c, 12, "class c.C { int f(a.A v) { return v.@m(); } }");
        made(c, 11, "class c.C { int f() { return a.A.@x; } }");
        made(c, 12, "class c.C { int f(a.B v) { return v.@n(); } }");
        made(c, 11, "class c.C { int f(a.B v) { return v.@y; } }");
        made(c, 0, "class c.C { int f(a.B v) { return v.own1(); } int g(a.C v) { return v.own1(); } a.B h(a.C v) { return v; } }");
        made(c, 12, "class c.C is a.B { int f() { return super.@n(); } }");
        made(c, 0, "class c.C is a.B { static int n() { return 1; } own z.Any y; }");
        made(c, 0, "class c.C is a.A { open int g() { return 1; } }");
        made(c, 10, "class @c.C is a.A { }");
        made(c, 0, "class c.C as a.H { }");
        made(c, 7, "class c.C { @f.F x; }");
        made(c, 7, "class c.C { @p.P x; }");
        // What has no PARENT that is there is no HEIR of z.Any by it; a face FITS it all the same.
        made(c, 13, "class c.C { z.Any f(a.B v) { return @v; } }");
        made(c, 13, "class c.C { z.Any f(a.C v) { return @v; } }");
        made(c, 0, "class c.C { z.Any f(a.H v) { return v; } z.Any g(a.A v) { return v; } }");
        c.x.pick(0, 0);
        made(c, 0, "class c.C { int f(a.A v) { return v.m() + a.A.x; } z.Any g(a.B v) { return v; } int h(a.C v) { return v.n() + v.y; } }");
        made(c, 10, "class @c.C as a.H { }");
    }

    /** A text of library 2 beside what stands; '@' at the FAULT's place. */
    private static void made(Check c, int fault, String text) {
        int place = text.indexOf('@');
        int answer = c.make(2, text.replace("@", ""));
        if (fault == 0) {
            Check.due(text + " has place " + c.x.place(), answer < 0 ? answer : 0, 0);
        } else {
            Check.due(text, answer, -10 - fault);
            Check.due("place in " + text, c.x.place(), place);
        }
    }

    /** Where PARENTS come round, they end at the first that comes again. */
    private static void parentsComeRound() {
        Check c = new Check();
        c.stand(0, "open class a.A { }");
        c.stand(1, "open class b.B { }");
        Check.due("upon the other's first", c.make(0, "open class a.A is b.B { open int m() { return 1; } open int x; open final int last() { return 1; } }"), 1);
        Check.due("upon the other's first", c.make(1, "open class b.B is a.A { open int n() { return 1; } open static int y; }"), 1);
        c.x.pick(0, 1);
        c.x.pick(1, 1);
        made(c, 0, "class c.C is a.A { int f(b.B v) { return m() + n() + super.n() + v.m() + x + c.C.y + a.A.y; } b.B g() { return this; } a.A h(b.B v) { return v; } }");
        made(c, 12, "class c.C is a.A { int f() { return @k(); } }");
        made(c, 12, "class c.C is b.B { int f() { return super.@k(); } }");
        made(c, 11, "class c.C is b.B { int f() { return @z; } }");
        made(c, 9, "class c.C is b.B { open void @m() { } }");
        made(c, 9, "class c.C is b.B { open int @last() { return 1; } }");
        made(c, 13, "class c.C is a.A { z.Any f() { return @this; } }");
        made(c, 0, "class c.C is b.B { new() { super(); } }");
        Check.due("a build of it", c.x.pick(2, c.x.builds(2) - 1), LinkHouse.NONE);
        Check.due("they can't be LOADED", c.meet(2, c.x.picked(2), "18 b.B"), "10  []");
        Check.due("all are broken", c.x.broken(), 6);
        Check.due("the first of them", c.x.brokenAt(0, 2), 10);
        // The text's own class closes no ring of theirs; if it stands in one it is an HEIR of itself.
        Check.due("in the ring", c.make(0, "open class a.A is b.B { }"), -15);
        c.x.pick(1, 0);
        Check.due("there is none", c.make(2, "class c.C is a.A { z.Any f() { return this; } }") < 0 ? 1 : 0, 0);
        fault(5, "class @a.A is a.A { }");
        fault(5, "class @a.A is a.B { } class a.B is a.C { } class a.C is a.A { }");
        fault(5, "class a.X { } class @a.A is a.B { } class a.B is a.C { } class a.C is a.A { }");
        fine("class a.A is a.B { } class a.B is a.C { } class a.C is a.D { } class a.D { }");
    }

    private static void facesComeRound() {
        Check c = new Check();
        c.stand(0, "open face a.F { }");
        c.stand(1, "open face b.F { }");
        c.make(0, "open face a.F as b.F { int m(); int x = 1; }");
        c.make(1, "open face b.F as a.F { int n() { return 1; } }");
        c.x.pick(0, 1);
        c.x.pick(1, 1);
        made(c, 10, "class @c.C as a.F { }");
        made(c, 0, "class c.C as a.F { open int m() { return n() + x; } b.F f() { return this; } z.Any g(b.F v) { return v; } }");
        made(c, 0, "class c.C as b.F { open int m() { return n() + x; } a.F f(b.F v) { return v; } }");
        made(c, 12, "class c.C { int f(a.F v) { return v.@k(); } }");
        made(c, 11, "class c.C { int f() { return a.F.@k; } }");
        Check.due("an HEIR of itself", c.make(0, "open face a.F as b.F { }"), -15);
        c.x.pick(2, 1);
        Check.due("they can't be LOADED", c.meet(2, 1, "19 b.F"), "10  []");
        fault(5, "face @a.F as a.F { }");
        fault(5, "face a.E { } face @a.F as a.E, a.G { } face a.G as a.F { }");
    }

    /** Int int; a class or face itself, and what it is an HEIR of; any face z.Any; null each class and face; void nothing. */
    private static void fits() {
        String world = "face a.F { } face a.G as a.F { } class a.P as a.F { } class a.Q is a.P as a.G { } class a.R is a.Q { } class a.X { static int i() { return 1; } static void v() { } ";
        String[] types = {"int", "z.Any", "a.F", "a.G", "a.P", "a.Q", "a.R"};
        // For each type, what of these FITS it.
        String[] given = {"1", "null", "new z.Any()", "(a.F) null", "(a.G) null", "new a.P()", "new a.Q()", "new a.R()", "v()", "i()"};
        String[] due = {"1000000001", "0111111100", "0101111100", "0100101100", "0100011100", "0100001100", "0100000100"};
        for (int t = 0; t < types.length; t++) {
            for (int g = 0; g < given.length; g++) {
                String text = world + "static void f(" + types[t] + " p) { f(" + given[g] + "); } }";
                String let = world + "static " + types[t] + " f() { let " + types[t] + " v = " + given[g] + "; return v; } }";
                if (due[t].charAt(g) == '1') {
                    fine(text);
                    fine(let);
                } else {
                    fault(12, text.replace("{ f(" + given[g] + ")", "{ @f(" + given[g] + ")"));
                    fault(13, let.replace("= " + given[g], "= @" + given[g]));
                }
            }
        }
    }

    /** A type whose C is not there: it and null FIT it, it FITS nothing else, and it has no FIELD and no method. */
    private static void typesThatAreNotThere() {
        Check c = new Check();
        c.stand(0, "open class t.T { open int x; open int m() { return 1; } } open class t.S is t.T { }");
        c.stand(1, "open class a.A { open t.T f; open t.T g() { return f; } open static void h(t.T p) { } open static void k(t.T p) { } open static void k(z.Any p) { } open t.S s; } open class a.H is t.T { }");
        c.x.pick(0, LinkHouse.NONE);
        String in = "class c.C { void f(a.A v) { ";
        made(c, 0, in + "v.f = v.f; v.f = null; v.f = v.g(); a.A.h(v.f); a.A.h(null); a.A.k(v.g()); out v.f == v.g(); out null == v.f; out v.f == this; out v.f ask c.C; let c.C w = (c.C) v.f; } }");
        made(c, 13, in + "let z.Any w = @v.f; } }");
        made(c, 13, in + "v.f = @this; } }");
        made(c, 13, in + "v.f = @v; } }");
        made(c, 13, in + "v.f = @v.s; } }");
        made(c, 13, in + "v.f = @new a.H(); } }");
        made(c, 13, in + "v.f = @new z.Ill(); } }");
        made(c, 13, in + "v.f = @new z.Any(); } }");
        made(c, 13, "class c.E is z.Ill { } " + in + "v.f = @new c.E(); } }");
        made(c, 13, "face c.F { } " + in + "v.f = @(c.F) null; } }");
        made(c, 13, in + "throw @v.f; } }");
        made(c, 13, in + "let z.Ill w = @v.f; } }");
        made(c, 13, in + "out @v.f; } }");
        made(c, 13, in + "throw @v.f; } }");
        made(c, 12, in + "a.A.@h(v); } }");
        made(c, 12, in + "a.A.@k(v.f, v.f); } }");
        made(c, 11, in + "out v.f.@x; } }");
        made(c, 12, in + "out v.f.@m(); } }");
        made(c, 7, in + "let @t.T w = v.f; } }");
        made(c, 7, in + "let z.Any w = (@t.T) v.f; } }");
        made(c, 7, in + "out v ask @t.T; } }");
        c.x.pick(0, 0);
        made(c, 0, in + "let z.Any w = v.f; out v.f.x + v.f.m(); v.f = v.s; v.f = new a.H(); } }");
    }

    /** A method ABOVE of such a RESULT, or of such PARAMS; a field of such a type in the machine. */
    private static void membersOfTypesThatAreNotThere() {
        Check c = new Check();
        c.stand(0, "open class t.T { open int x = 4; }");
        c.stand(1, "open bare class a.R { open t.T g() { return null; } open bare int f(t.T p); } open class a.A { open t.T v; open static t.T s; open t.T g() { return v; } open static int k(t.T p) { return p == null; } open int e() { return v.x; } } open face a.F { int h(t.T p); } open face a.G { t.T i(); }");
        c.x.pick(0, LinkHouse.NONE);
        made(c, 9, "class c.C is a.A { open z.Any @g() { return null; } }");
        made(c, 9, "class c.C is a.A { open a.A @g() { return null; } }");
        made(c, 9, "class c.C is a.A { open void @g() { } }");
        made(c, 7, "class c.C is a.A { open @t.T g() { return null; } }");
        made(c, 10, "class @c.C is a.R { }");
        made(c, 10, "class @c.C is a.R { open int f(z.Any p) { return 1; } }");
        made(c, 10, "class @c.C as a.F { open int h(z.Any p) { return 1; } }");
        made(c, 9, "class c.C as a.G { open z.Any @i() { return null; } }");
        made(c, 0, "bare class c.C is a.R as a.F, a.G { }");
        made(c, 0, "class c.C is a.A { z.Any w() { return null; } }");
        int build = c.make(2, "class c.M { static void m() { let a.A p = new a.A(); out p.v == null; out a.A.s == p.v; out a.A.k(p.v); out a.A.k(null); out p.g() == null; p.v = null; p.v = p.g(); out p.v ask c.M; out (c.M) p.v == null; } static void n() { out new a.A().e(); } }");
        c.x.pick(2, build);
        Check.due("run", c.run("c.M.m"), 1);
        Check.due("null is all that it can be", c.numbers(), "1 1 1 1 1 0 1");
        Check.due("the USE is ahead of 13", c.run("c.M.n"), -11);
        c.x.pick(0, 0);
        Check.due("it is there", c.run("c.M.n"), -23);
        made(c, 9, "class c.C is a.A { open z.Any @g() { return null; } }");
        made(c, 0, "class c.C is a.A { open t.T g() { return null; } }");
        made(c, 0, "class c.C is a.R as a.F { open int f(t.T p) { return p.x; } open int h(t.T p) { return 1; } }");
    }

    /** A class is LET to D, if it is open or D's PACKAGE is its own. */
    private static void letClasses() {
        Check c = new Check();
        c.stand(0, "class a.A { open static int x; open static int y() { return 1; } } open class a.B { open static int x; open static int y() { return 1; } } face a.F { } open face a.G { }");
        String[][] all = {{"5", "class %.X is @a.A { }"}, {"5", "class %.X as @a.F { }"}, {"7", "class %.X { @a.A v; }"}, {"7", "class %.X { void f(@a.A v) { } }"}, {"7", "class %.X { @a.A f() { return null; } }"},
            {"7", "class %.X { int f() { return @a.A.x; } }"}, {"7", "class %.X { int f() { return @a.A.y(); } }"}, {"7", "class %.X { void f() { new @a.A(); } }"}, {"7", "class %.X { void f() { let @a.A v = null; } }"},
            {"7", "class %.X { z.Any f() { return (@a.A) null; } }"}, {"7", "class %.X { int f() { return null ask @a.F; } }"}, {"7", "class %.X { static final int k = @a.A.x; }"}, {"7", "class %.X { new(@a.F p) { } }"}};
        for (String[] each : all) {
            made(c, Integer.parseInt(each[0]), each[1].replace("%", "b"));
            Check d = new Check();
            d.stand(0, "class a.A { open static int x; open static int y() { return 1; } } open class a.B { open static int x; open static int y() { return 1; } open new() { } } face a.F { } open face a.G { }");
            made(d, 0, each[1].replace("%", "a").replace("@", ""));
            made(d, 0, each[1].replace("%", "b").replace("@", "").replace("a.A", "a.B").replace("a.F", "a.G"));
        }
    }

    private static final String K = "open class k.K with k.N, k.O { own int o; int n; kin int k; open int p; own static int so; static int sn; kin static int sk; open static int sp; "
        + "own int mo() { return 1; } int mn() { return 1; } kin int mk() { return 1; } open int mp() { return 1; } "
        + "own static int to() { return 1; } static int tn() { return 1; } kin static int tk() { return 1; } open static int tp() { return 1; } } "
        + "class k.N in k.K { % } class k.O in k.K { } class k.R { % } open class d.S is k.K { } class d.X { % } class d.M is k.K { } class d.D is d.M { % } open class d.E is d.D { } ";

    /** Who may name what: o of OWN, n of none, k of KIN, p of open; in which of the classes above, named by k.K. */
    private static void access() {
        String[] who = {"k.N", "k.R", "d.X", "d.D"};
        String[] due = {"onkp", "nkp", "p", "kp"};
        for (int w = 0; w < who.length; w++) {
            for (char a : "onkp".toCharArray()) {
                boolean is = due[w].indexOf(a) >= 0;
                tried(who[w], is ? 0 : 11, "int f(k.K v) { return v.@" + a + "; }");
                tried(who[w], is ? 0 : 11, "int f() { return k.K.@s" + a + "; }");
                tried(who[w], is ? 0 : 12, "int f(k.K v) { return v.@m" + a + "(); }");
                tried(who[w], is ? 0 : 12, "int f() { return k.K.@t" + a + "(); }");
                tried(who[w], is ? 0 : 11, "void f(k.K v) { v.@" + a + " = 1; }");
            }
        }
        // Of K itself all is LET to it, named by whatever is its HEIR.
        fine(K.replace("%", "").replace("own int o;", "own int o; int f(d.S v) { return v.o + v.n + v.mo() + d.S.so + d.S.to(); }"));
    }

    /** With one of the classes above having this, '@' at the FAULT's place. */
    private static void tried(String who, int fault, String member) {
        String[] parts = K.split("%", -1);
        StringBuilder text = new StringBuilder(parts[0]);
        String[] order = {"k.N", "k.R", "d.X", "d.D"};
        for (int i = 0; i < 4; i++) {
            text.append(order[i].equals(who) ? member : "").append(parts[i + 1]);
        }
        if (fault == 0) {
            fine(text.toString().replace("@", ""));
        } else {
            fault(fault, text.toString());
        }
    }

    /** Kin likewise, also when D is an HEIR of K and the member is static or C is D, an HEIR of D, or what D is an HEIR of. */
    private static void kinNamedBy() {
        for (String c : new String[] {"k.K", "d.M", "d.D", "d.E"}) {
            tried("d.D", 0, "int f(" + c + " v) { return v.@k + v.mk() + " + c + ".sk + " + c + ".tk(); }");
        }
        tried("d.D", 11, "int f(d.S v) { return v.@k; }");
        tried("d.D", 12, "int f(d.S v) { return v.@mk(); }");
        tried("d.D", 0, "int f() { return @d.S.sk + d.S.tk(); }");
        tried("d.D", 0, "int f() { return @k + mk() + sk + tk() + super.mk() + this.k; }");
        tried("d.X", 11, "int f() { return d.S.@sk; }");
        tried("d.X", 12, "int f() { return d.S.@tk(); }");
        tried("k.R", 0, "int f(d.S v, d.E w) { return v.@k + w.mk() + d.S.sk + d.E.tk(); }");
        // D is K: named by an HEIR, too.
        fine("open class k.K { kin int k; int f(d.D v) { return v.k; } } open class d.D is k.K { }");
        // An HEIR of D's that is in K's PACKAGE helps D nothing.
        fault(11, "open class k.K { int n; } open class d.D is k.K { int f(k.H v) { return v.@n; } } open class k.H is d.D { }");
        fine("open class k.K { int n; } open class d.D is k.K { } class k.H is d.D { int f() { return n + this.n; } }");
    }

    /** A maker is LET as a member of its C is, named by that. */
    private static void makersAccess() {
        String makers = "open class k.K with k.N { own new(int p) { } new(z.Any p) { } kin new() { } open new(int p, int q) { } } ";
        fine(makers + "class k.N in k.K { void f() { new k.K(1); new k.K(this); new k.K(); new k.K(1, 2); } }");
        fault(18, makers + "class k.N in k.K { } class k.R { void f() { new @k.K(1); } }");
        fine(makers + "class k.N in k.K { } class k.R { void f() { new k.K(this); new k.K(); new k.K(1, 2); } }");
        fault(18, makers + "class k.N in k.K { } class d.X { void f() { new @k.K(this); } }");
        fault(18, makers + "class k.N in k.K { } class d.X { void f() { new @k.K(); } }");
        fine(makers + "class k.N in k.K { } class d.X { void f() { new k.K(1, 2); } }");
        fine(makers + "class k.N in k.K { } class d.D is k.K { void f() { new k.K(); new k.K(1, 2); } new() { super(); } }");
        fault(18, makers + "class k.N in k.K { } class d.D is k.K { void f() { new @k.K(this); } }");
        fault(18, makers + "class k.N in k.K { } class d.D is k.K { new() { @super(1); } }");
        fault(18, makers + "class k.N in k.K { } class d.D is k.K { new() { @super(null); } }");
        // The default maker is open for an open class, else none.
        fine("open class k.K { } class d.X { void f() { new k.K(); } }");
        Check c = new Check();
        c.stand(0, "class k.K { } open class k.L { }");
        made(c, 0, "class k.R { void f() { new k.K(); new k.L(); } }");
        made(c, 7, "class d.R { void f() { new @k.K(); } }");
        made(c, 0, "class d.R { void f() { new k.L(); } }");
    }

    /** NEST: the class or face that it is in, if that is there, of its PACKAGE, and has it in its 'with'; else itself. */
    private static void nests() {
        fine("face k.F with k.X { own int h() { return 1; } } class k.X in k.F { own int o; int f(k.F v) { return v.h(); } }");
        fine("class k.H with k.X, k.Y { int f(k.X v) { return v.o; } } class k.X in k.H { own int o; } class k.Y in k.H { int f(k.X v) { return v.o; } }");
        // What is in what is in another: no NEST of that.
        fault(11, "class k.G with k.H { } class k.H in k.G with k.X { own int o; } class k.X in k.H { int f(k.H v) { return v.@o; } }");
        fault(11, "class k.G with k.H { own int o; } class k.H in k.G with k.X { } class k.X in k.H { int f(k.G v) { return v.@o; } }");
        fine("class k.G with k.H { own int o; } class k.H in k.G with k.X { int f(k.G v) { return v.o; } } class k.X in k.H { }");
        fine("class k.G in k.G with k.G { own int o; int f(k.G v) { return v.o; } }");
        fault(5, "class k.H { } class k.X in @k.H { }");
        fault(5, "class k.H with d.X { } class d.X in @k.H { }");
        Check c = new Check();
        c.stand(1, "class k.H with k.X { own static int o; static int f() { return k.X.p; } } class k.X in k.H { own static int p; static int f() { return k.H.o; } }");
        Check.due("one NEST", c.meet(1, 0, "5 k.H.o:int"), "0 k.H.o:int [k.H]");
        Check.due("one NEST", c.meet(1, 0, "5 k.X.p:int"), "0 k.X.p:int [k.X]");
        c.stand(0, "class k.H { own static int o; }");
        Check.due("the first H of that name has it not", c.meet(1, 0, "5 k.H.o:int"), "2 k.H.o:int [k.H]");
        c.stand(0, "class k.H with k.X { own static int o; } class k.X in k.H { own static int p; }");
        Check.due("X is another library's", c.x.meet(1, 0, 1), LinkHouse.NONE);
        c.stand(0, "class k.X { own static int p; }");
        Check.due("that X is in none", c.meet(1, 0, "5 k.X.p:int"), "2 k.X.p:int [k.X]");
    }

    /** That of X itself; else that of the first of its FACES that has one; else that of its PARENT. */
    private static void theField() {
        outs("face c.F { int q = 1; } face c.G as c.E { int q = 2; int r = 3; } face c.E { int t = 9; } class c.P as c.H { int q; int r; int s; } face c.H { int s = 4; int t = 5; int u = 6; } class c.Q is c.P as c.F, c.G { int q = 7; } "
            + "class c.M is c.P as c.F, c.G { static void m() { out q; out r; out c.M.t; out u; let c.P v = new c.P(); v.s = 8; out v.s; out new c.Q().q; } }", "1 3 9 6 8 7");
        fault(14, "face a.F { int q = 1; } class a.P { int q; } class a.A is a.P as a.F { int f() { return this.@q; } }");
        fine("face a.F { int q = 1; } class a.P { int q; } class a.A is a.P as a.F { int f() { return a.A.q + q; } }");
        fault(14, "face a.F { int q = 1; } class a.P { int q; } class a.A is a.P { int f() { return a.A.@q; } }");
        // In part 4 its type counts, too.
        Check c = new Check();
        c.stand(0, "open face a.F { int q = 1 == null ask a.F; } open class a.A as a.F { }");
        c.stand(1, "class b.B { int f() { return a.A.q; } }");
        c.make(0, "open face a.F { int q = 1 == null ask a.F; } open class a.A as a.F { open z.Any q; }");
        c.x.pick(0, 1);
        Check.due("of another type is another FIELD", c.meet(1, 0, "5 a.A.q:int"), "0 a.F.q:int [a.A a.F]");
    }

    /** THE FIELD is one alone: what is not LET, or of another type, hides what is above. */
    private static void fieldNotLet() {
        fault(11, "class a.P { open int x; } class a.Q is a.P { own int x; } class a.R is a.Q { int f() { return @x; } }");
        fault(11, "open class a.P { open int x; } open class a.Q is a.P { int x; } class b.R is a.Q { int f() { return this.@x; } }");
        fine("open class a.P { open int x; } open class a.Q is a.P { int x; } class b.R is a.Q { int f(a.P v) { return v.x; } }");
        fault(13, "class a.P { int x; } class a.Q is a.P { z.Any x; int f() { return @x; } }");
    }

    /** Fields and methods of a class may have one NAME. */
    private static void twiceNamed() {
        outs("class c.M { static int x = 3; static int x() { return x + 1; } static int x(int x) { return x + x(); } static void m() { let int x = 5; out x; out x(); out x(x); out c.M.x; out c.M.x(); } }", "5 4 9 3 4");
    }

    /** Not static, not own; if m is open or kin, or their PACKAGES are one, or by one between. */
    private static void overrides() {
        outs("class c.M { own int f() { return 1; } int g() { return f(); } static void m() { out new c.N().g(); let c.M v = new c.N(); out v.f(); } } class c.N is c.M { own int f() { return 2; } }", "1 1");
        // What is meant is c.M's, that is LET to it; what it meets is c.N's.
        fails("class c.M { own int f() { return 1; } static void m() { out new c.N().f(); } } class c.N is c.M { own int f() { return 2; } }", 2);
        Check c = new Check();
        c.stand(0, "open class a.P { int n() { return 1; } kin int k() { return 1; } open int p() { return 1; } open int all() { return n() * 100 + k() * 10 + p(); } }");
        c.stand(1, "open class b.P is a.P { int n() { return 2; } kin int k() { return 2; } open int p() { return 2; } }");
        c.stand(2, "class a.Q is b.P { int n() { return 3; } kin int k() { return 3; } static void m() { out new b.P().all(); out new a.Q().all(); } }");
        Check.due("run", c.run("a.Q.m"), 1);
        Check.due("of another PACKAGE not what has no A; of the same again", c.numbers(), "122 332");
        Check d = new Check();
        d.stand(0, "open class a.P { int n() { return 1; } open int all() { return n(); } } open class a.Q is a.P { kin int n() { return 2; } }");
        d.stand(1, "class b.R is a.Q { kin int n() { return 3; } static void m() { out new b.R().all(); } }");
        Check.due("run", d.run("b.R.m"), 1);
        Check.due("by one between that OVERRIDES it", d.numbers(), "3");
        // One between that is static, or own, OVERRIDES nothing, so it leads to none.
        String[] between = {"open int n() { return 2; }", "kin int n() { return 2; }", "int n() { return 2; }", "open static int n() { return 2; }", "own int n() { return 2; }", "open int n(int p) { return 2; }", ""};
        String[] leads = {"3", "3", "1", "1", "1", "1", "1"};
        for (int i = 0; i < between.length; i++) {
            Check e = new Check();
            e.stand(0, "open class a.P { open int all() { return 0; } }");
            e.stand(1, "open class a.Q is a.P { }");
            e.stand(2, "class b.R is a.Q { kin int n() { return 3; } static void m() { out new b.R().all(); } }");
            e.make(1, "open class a.Q is a.P { " + between[i] + " }");
            e.make(0, "open class a.P { open int all() { return n(); } int n() { return 1; } }");
            e.x.pick(0, 1);
            e.x.pick(1, 1);
            Check.due("run with " + between[i], e.run("b.R.m"), 1);
            Check.due("by " + between[i], e.numbers(), i == 2 ? "2" : leads[i]);
        }
        // All of a class's that are no less open are a face's, too; what is not open is not LET by it.
        fails("face c.F { int f(); } class c.P { int f() { return 1; } } class c.M is c.P as c.F { static void m() { let c.F v = new c.M(); v.f(); } }", 2);
        fails("face c.F { int f(); } class c.P { kin int f() { return 1; } } class c.M is c.P as c.F { static void m() { let c.F v = new c.M(); v.f(); } }", 2);
        outs("face c.F { int f(); } class c.P { open int f() { return 4; } } class c.M is c.P as c.F { static void m() { let c.F v = new c.M(); out v.f(); } }", "4");
        outs("face c.F { own int f() { return 5; } static int g(c.F v) { return v.f(); } } class c.M as c.F { int f() { return 6; } static void m() { out c.F.g(new c.M()); } }", "5");
    }

    /** Not static, not own, whose face has no HEIR among the faces of the others. */
    private static void mostSpecial() {
        String f = "face a.F { int g() { return 1; } } ";
        fine(f + "class a.A as a.F { }");
        fine(f + "face a.G as a.F { int g() { return 2; } } class a.A as a.F, a.G { } class a.B as a.G, a.F { } class a.C is a.A as a.F { }");
        fault(10, f + "face a.G { int g() { return 2; } } class @a.A as a.F, a.G { }");
        fault(10, f + "face a.G as a.F { int g(); } class @a.A as a.F, a.G { }");
        fault(10, f + "face a.G as a.F { int g(); } class @a.A as a.G { }");
        fine(f + "face a.H { int g(); } class a.A as a.H, a.F { } class a.B as a.F, a.H { }");
        fault(10, "face a.H { int g(); } class @a.A as a.H { }");
        fault(10, "face a.H { int g(); } face a.I { int g(); } class @a.A as a.H, a.I { }");
        fine(f + "face a.G as a.F { int g() { return 2; } } face a.H as a.F { int g(); } class a.A as a.G, a.H { }");
        fault(10, f + "face a.G as a.F { int g() { return 2; } } face a.H as a.F { int g() { return 3; } } class @a.A as a.G, a.H { }");
        fine(f + "face a.G as a.F { int g() { return 2; } } face a.H as a.F { int g() { return 3; } } face a.I as a.G, a.H { int g() { return 4; } } class a.A as a.G, a.H, a.I { }");
        fine(f + "face a.G { int g() { return 2; } } bare class a.A as a.F, a.G { } class a.B is a.A { open int g() { return 3; } }");
        fault(10, f + "face a.G { int g() { return 2; } } bare class a.A as a.F, a.G { } class @a.B is a.A { }");
        fine(f + "face a.G { static int g() { return 2; } } class a.A as a.F, a.G { }");
        fine(f + "face a.G { own int g() { return 2; } } class a.A as a.F, a.G { }");
        outs("face c.F { int g() { return 1; } } face c.G as c.F { int g() { return 2; } } class c.P as c.G { } class c.M is c.P as c.F { static void m() { let c.F v = new c.M(); out v.g(); out new c.M().g(); } }", "2 2");
    }

    /** M itself, if own; else by PARENTS up; else of the MOST SPECIAL; CLASH 3, BARE 6. */
    private static void selected() {
        fault(10, "face a.F { int g() { return 1; } } bare class a.P { open bare int g(); } class @a.A is a.P as a.F { }");
        fine("face a.F { int g() { return 1; } } bare class a.P { open bare int g(); } class a.A is a.P as a.F { open int g() { return 2; } }");
        fine("face a.F { int g(); } class a.P { open int g() { return 1; } } class a.A is a.P as a.F { }");
        fault(10, "face a.F { int g(); } class a.P { own int g() { return 1; } } class @a.A is a.P as a.F { }");
        fault(10, "face a.F { int g(); } class a.P { static int g() { return 1; } } class @a.A is a.P as a.F { }");
        fault(10, "face a.F { int g(); } class a.P { open void g() { } } class @a.A is a.P as a.F { }");
        fault(10, "face a.F { int g(int p); } class a.P { open int g() { return 1; } } class @a.A is a.P as a.F { }");
        outs("bare class c.P { open int g() { return h(); } open bare int h(); } class c.Q is c.P { open int h() { return 1; } } class c.M is c.Q { open int h() { return super.h() + 1; } static void m() { out new c.M().g(); out new c.Q().g(); } }", "2 1");
    }
}
