/** Promises 10 to 18: builds, pick, picked, classes, members, shape, uses, use, tell. */
public final class BuildsTest {
    public static void main(String[] args) {
        picks();
        shapes();
        facesAndBridges();
        constants();
        usesInOrder();
        usesOfCalls();
        fieldsWithoutUse();
        wrong();
        Check.end("BuildsTest");
    }

    private static void picks() {
        Check c = new Check();
        Check.due("builds of no library", c.x.builds(5), LinkHouse.BAD);
        Check.due("builds of no library", c.x.builds(-1), LinkHouse.BAD);
        Check.due("picked of no library", c.x.picked(5), LinkHouse.BAD);
        Check.due("pick in no library", c.x.pick(-1, LinkHouse.NONE), LinkHouse.BAD);
        Check.due("pick no build", c.x.pick(4, 0), LinkHouse.BAD);
        Check.due("pick none", c.x.pick(4, LinkHouse.NONE), LinkHouse.NONE);
        c.make(4, "class e.A { } class e.B { }");
        c.make(4, "class e.A { }");
        Check.due("builds", c.x.builds(4), 2);
        Check.due("picked", c.x.picked(4), LinkHouse.NONE);
        Check.due("classes of the world", c.x.told(5), 2);
        Check.due("pick", c.x.pick(4, 0), LinkHouse.NONE);
        Check.due("classes of the world", c.x.told(5), 4);
        Check.due("pick another one", c.x.pick(4, 1), 0);
        Check.due("classes of the world", c.x.told(5), 3);
        Check.due("pick no build", c.x.pick(4, 2), LinkHouse.BAD);
        Check.due("pick no build", c.x.pick(4, -1), LinkHouse.BAD);
        Check.due("picked", c.x.picked(4), 1);
        Check.due("pick none", c.x.pick(4, LinkHouse.NONE), 1);
        Check.due("picked", c.x.picked(4), LinkHouse.NONE);
        c.x.pick(4, 1);
        c.make(0, "class a.A { } class e.A { }");
        c.x.pick(0, 0);
        Check.due("of one name the first alone", c.x.told(5), 4);
        c.x.name(2);
        Check.due("numbers go by libraries", c.out(), "a.A");
    }

    private static void shapes() {
        Check c = new Check();
        c.make(1, "open face a.F only a.B, a.A { } class a.A is z.Any as a.F, a.G with a.N, a.N { own int x; kin static a.A y; open final int z = 3; "
            + "int w = 4; a.B f(int p, a.A q) { return null; } new() { } kin new(a.B p, int q) { } start { } own static final void g() { } } "
            + "face a.G { } open bare class a.B as a.F { kin bare int h(); } final class a.N in a.A { } open class a.C { }");
        Check.due("classes", c.x.classes(1, 0), 6);
        Check.due("head", c.head(1, 0, 0), "open face a.F only a.B,a.A");
        Check.due("head", c.head(1, 0, 1), "class a.A is z.Any as a.F,a.G with a.N,a.N");
        Check.due("head", c.head(1, 0, 2), "face a.G");
        Check.due("head", c.head(1, 0, 3), "open bare class a.B as a.F");
        Check.due("head", c.head(1, 0, 4), "final class a.N in a.A");
        Check.due("members", c.x.members(1, 0, 1), 8);
        Check.due("members", c.members(1, 0, 1), "own int x; kin static a.A y; open final int z; int w; a.B f(int,a.A); new(); "
            + "kin new(a.B,int); own static final void g()");
        Check.due("members", c.members(1, 0, 2), "");
        Check.due("members", c.members(1, 0, 3), "kin bare int h(); open new()");
        Check.due("members", c.members(1, 0, 4), "new()");
        Check.due("members", c.members(1, 0, 5), "open new()");
        Check.due("length", c.x.shape(1, 0, 5, 0), 10);
        Check.due("length", c.x.shape(1, 0, 5, LinkHouse.NONE), 14);
    }

    private static void facesAndBridges() {
        Check c = new Check();
        c.make(0, "open face a.F { int f(); bare void g(a.F p); int h() { return 1; } own int o() { return 2; } static int s() { return 3; } "
            + "own static a.F t() { return null; } int k = 4; static a.F n = null; final int m = s(); z.Any r() { return null; } } "
            + "face a.G as a.F { a.G r() { return this; } } bare class a.A as a.F { kin z.Any q(int p) { return null; } open a.F r() { return null; } open z.Any u() { return null; } } "
            + "bare class a.B is a.A as a.G { kin final a.A q(int p) { return null; } open a.G r() { return null; } open a.B u() { return this; } } "
            + "bare class a.C is a.B { open a.C u() { return this; } }");
        Check.due("a face's", c.members(0, 0, 0), "open bare int f(); open bare void g(a.F); open int h(); own int o(); open static int s(); "
            + "own static a.F t(); open static final int k=4; open static final a.F n; open static final int m; open z.Any r()");
        Check.due("a bridge in a face", c.members(0, 0, 1), "open a.G r(); bridge open z.Any r()");
        Check.due("one bridge", c.members(0, 0, 2), "kin z.Any q(int); open a.F r(); open z.Any u(); new(); bridge open z.Any r()");
        Check.due("bridges behind", c.members(0, 0, 3), "kin final a.A q(int); open a.G r(); open a.B u(); new(); bridge kin z.Any q(int); "
            + "bridge open a.F r(); bridge open z.Any r(); bridge open z.Any u()");
        Check.due("from the nearest on", c.members(0, 0, 4), "open a.C u(); new(); bridge open a.B u(); bridge open z.Any u()");
        Check.due("its uses", c.uses(0, 0, 1), "19 a.F; 8 a.G.r()a.G");
        Check.due("its uses", c.uses(0, 0, 4), "18 a.B; 2 a.B.new(); 7 a.C.u()a.C; 17 a.C>a.B");
    }

    private static void constants() {
        Check c = new Check();
        c.stand(0, "open class a.A { open static final int one = 1; static final int two = 2; open static int no = 3; open static final a.A ref = null; "
            + "open static final int low = 0 - 8 * 268435456; }");
        c.make(1, "class b.B { static final int a1 = a.A.one + (2 * 3 - 4) * 5; static final int b1 = a1 < b.B.a1 + (1 == 1); static final int c1 = d1; "
            + "static final int d1 = 4; final int e1 = 5; static int f1 = 6; static final int g1 = a.A.no; static final int h1 = a.A.low - 1; "
            + "static final int i1 = 200000000 * 0; static final int j1 = 999999999 * 999999999; static final b.B k1 = null; static final int l1 = m(); "
            + "static int m() { return d1; } static final int n1 = null ask b.B; int o1 = d1 + a.A.one; static final int p1; }");
        Check.due("a library's", c.members(0, 0, 0), "open static final int one=1; static final int two=2; open static int no; "
            + "open static final a.A ref; open static final int low=-2147483648; open new()");
        Check.due("constants", c.members(1, 0, 0), "static final int a1=11; static final int b1=1; static final int c1; static final int d1=4; final int e1; static int f1; "
            + "static final int g1; static final int h1=2147483647; static final int i1=0; static final int j1=808348673; static final b.B k1; "
            + "static final int l1; static int m(); static final int n1; int o1; static final int p1; new()");
        Check.due("their uses", c.uses(1, 0, 0), "16 a.A.one=1; 16 b.B.a1=11; 16 b.B.d1=4; 5 a.A.no:int; "
            + "16 a.A.low=-2147483648; 9 b.B.m()int; 14 b.B");
        c.make(1, "class b.C { static final int a1 = 3 == 3; static final int b1 = 3 < 3; static final int c1 = 2 < 3; static final int d1 = 3 == 4; "
            + "static final int e1 = 7 - 2 - 3 * (2 - 3); static final int f1 = (1 < 2) == 1; }");
        Check.due("comparing", c.members(1, 1, 0), "static final int a1=1; static final int b1=0; static final int c1=1; static final int d1=0; "
            + "static final int e1=8; static final int f1=1; new()");
        Check.due("a constant that is not LET", c.make(1, "class b.B { static final int x = a.A.two; }"), -21);
    }

    private static void usesInOrder() {
        Check c = new Check();
        c.stand(0, "open class a.P { open a.P n; open int i; open static a.P s; open new(z.Any p, a.F q) { } open new() { } } open face a.F { int f(a.F p); } "
            + "open class a.X is z.Ill { } open class a.Q is a.P as a.F { open int f(a.F p) { return 1; } }");
        c.make(1, "class b.B is a.P as a.F { int d = 1; new(a.Q v) { super(v, v); i = d; } new(int v) { out v; } open int f(a.F p) { return 1; } "
            + "a.P go(a.Q v, z.Any w) { let a.P x = v; this.n = v; v.n.n = null; a.P.s = v; x = v; w = v; f(v); v.f(this); out v ask a.F; x = (a.P) w; "
            + "try { throw new a.X(); } catch (a.X e) { throw e; } } a.F to(b.B v) { if (1) return null; return v; } void un(z.Any v) { un(v); } "
            + "start { new a.P(new a.Q(), new a.Q()); } a.F g = this; static a.P t; }");
        Check.due("uses", c.uses(1, 0, 0), "18 a.P; 19 a.F; 17 a.Q>a.F; 2 a.P.new(z.Any,a.F); 3 b.B.d:int; 4 b.B.i:int; 2 a.P.new(); "
            + "17 a.Q>a.P; 4 b.B.n:a.P; 3 a.Q.n:a.P; 4 a.P.n:a.P; 6 a.P.s:a.P; 7 b.B.f(a.F)int; 17 b.B>a.F; 7 a.Q.f(a.F)int; 14 a.F; 13 a.P; 1 a.X; 2 a.X.new(); "
            + "17 a.X>z.Ill; 15 a.X; 7 b.B.un(z.Any)void; 1 a.P; 1 a.Q; 2 a.Q.new()");
        c.make(1, "class b.B { } class b.C is b.B { } class b.D is b.C { b.C x = new b.C(); new(int p) { } }");
        Check.due("none of z.Any's by super", c.uses(1, 1, 0), "");
        Check.due("a default maker's super", c.uses(1, 1, 1), "18 b.B; 2 b.B.new()");
        Check.due("by new and by super", c.uses(1, 1, 2), "18 b.C; 1 b.C; 2 b.C.new()");
        Check.due("uses of all", c.x.uses(1, 1), 5);
        Check.due("its class", c.x.use(1, 1, 1, 1), 1);
        Check.due("its sort", c.x.use(1, 1, 1, 0), 2);
        c.make(1, "class b.E is z.Ill { void f() { new z.Any(); code = 1; let z.Any v = this; throw this; } }");
        Check.due("z.Any's by new", c.uses(1, 2, 0), "18 z.Ill; 1 z.Any; 2 z.Any.new(); 4 b.E.code:int; 17 b.E>z.Ill; 2 z.Ill.new()");
    }

    private static void usesOfCalls() {
        Check c = new Check();
        c.stand(0, "open face a.F { int f(int p) { return 1; } static void s() { } int c = 1; } "
            + "open class a.A as a.F { open static int t(z.Any p, a.F q) { return 1; } open int u; open static int w; }");
        c.make(1, "class b.B is a.A { int f2() { f(1); this.f(1); super.f(1); a.F.s(); t(null, this); a.A.t(this, null); return w + u + b.B.w; } }");
        Check.due("by a class", c.uses(1, 0, 0), "18 a.A; 7 b.B.f(int)int; 11 a.A.f(int)int; 10 a.F.s()void; 17 b.B>a.F; 9 b.B.t(z.Any,a.F)int; "
            + "9 a.A.t(z.Any,a.F)int; 5 b.B.w:int; 3 b.B.u:int; 2 a.A.new()");
        c.make(1, "face b.G as a.F { int f(int p) { return a.F.super.f(c) + f(2) + b.G.k(this) + this.f(3); } own static int k(a.F p) { return p.f(4); } int m = k(null); }");
        Check.due("by a face", c.uses(1, 1, 0), "19 a.F; 16 b.G.c=1; 12 a.F.f(int)int; 8 b.G.f(int)int; 17 b.G>a.F; 10 b.G.k(a.F)int; 8 a.F.f(int)int");
    }

    /** A field's '= E' has the USES of its E, and its 17, and none of the field itself. */
    private static void fieldsWithoutUse() {
        Check c = new Check();
        c.stand(0, "open class a.A { open int i; open static a.A s; } open class a.B is a.A { } open face a.F { a.A k = new a.B(); z.Any v = new a.B(); }");
        c.make(1, "class b.B { int x = 1; own final int y = x; static int z = 2; static final int w = 3; static final int r = z; final a.A q = new a.B(); static a.A t = a.A.s; a.B n = null; }");
        Check.due("of a class", c.uses(1, 0, 0), "3 b.B.x:int; 5 b.B.z:int; 1 a.B; 2 a.B.new(); 17 a.B>a.A; 5 a.A.s:a.A");
        Check.due("of a face", c.uses(0, 0, 2), "1 a.B; 2 a.B.new(); 17 a.B>a.A");
        c.make(1, "class b.B is a.A { int x = 1; static int z = 2; start { z = 3; } new() { x = 4; i = 5; } }");
        Check.due("what stands in front of = has one", c.uses(1, 1, 0), "18 a.A; 6 b.B.z:int; 2 a.A.new(); 4 b.B.x:int; 4 b.B.i:int");
        c.make(1, "class b.B { static final int x = 1; final int y = 2; start { x = 3; } new() { y = 4; } }");
        Check.due("a CONSTANT is put by a start", c.uses(1, 2, 0), "6 b.B.x:int; 4 b.B.y:int");
        c.make(1, "class b.B { int x = 1; static int y = 2; } class b.C is b.B { int z = x; }");
        Check.due("none is there", c.x.uses(1, 3), 3);
        Check.due("none is there", c.x.use(1, 3, 3, 0), LinkHouse.BAD);
        Check.due("none is there", c.x.meet(1, 3, 3), LinkHouse.BAD);
        Check.due("none is there", c.x.touch(1, 3, 3), LinkHouse.BAD);
        Check.due("it does not stand", c.x.meet(1, 3, 2), LinkHouse.NONE);
    }

    private static void wrong() {
        Check c = new Check();
        c.make(0, "class a.A { int x = 1; }");
        Check.due("classes", c.x.classes(0, 1), LinkHouse.BAD);
        Check.due("classes", c.x.classes(1, 0), LinkHouse.BAD);
        Check.due("classes", c.x.classes(-1, 0), LinkHouse.BAD);
        Check.due("members", c.x.members(0, 0, 1), LinkHouse.BAD);
        Check.due("members", c.x.members(0, 0, -1), LinkHouse.BAD);
        Check.due("members", c.x.members(0, -1, 0), LinkHouse.BAD);
        Check.due("shape", c.x.shape(0, 0, 0, 2), LinkHouse.BAD);
        Check.due("shape", c.x.shape(0, 0, 0, -1), LinkHouse.BAD);
        Check.due("shape", c.x.shape(0, 0, 0, -3), LinkHouse.BAD);
        Check.due("shape", c.x.shape(0, 0, 1, LinkHouse.NONE), LinkHouse.BAD);
        Check.due("shape", c.x.shape(5, 0, 0, LinkHouse.NONE), LinkHouse.BAD);
        Check.due("uses", c.x.uses(0, 1), LinkHouse.BAD);
        Check.due("use", c.x.use(0, 0, 1, 0), LinkHouse.BAD);
        Check.due("use", c.x.use(0, 0, -1, 0), LinkHouse.BAD);
        Check.due("use", c.x.use(0, 0, 0, 2), LinkHouse.BAD);
        Check.due("use", c.x.use(0, 0, 0, -1), LinkHouse.BAD);
        Check.due("tell", c.x.tell(0, 0, 1), LinkHouse.BAD);
        Check.due("tell", c.x.tell(0, 1, 0), LinkHouse.BAD);
        Check.due("nothing was told", c.x.size(), 0);
        Check.due("an empty build", c.make(2, ""), 0);
        Check.due("its classes", c.x.classes(2, 0), 0);
        Check.due("its uses", c.x.uses(2, 0), 0);
    }
}
