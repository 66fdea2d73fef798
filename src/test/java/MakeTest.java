/** Promises 8 and 9: make and place, FAULT by FAULT. In a text here '@' stands ahead of the place that is due. */
public final class MakeTest {
    private static final String BASE =
        "open class b.P { kin int kf; own int of; int pf; open int xf; open static int xs; open final int xe; open static final int kk = 5; "
        + "open new() { } kin new(int p) { } own new(b.P p) { } open int m() { return 1; } int pm() { return 1; } own int om() { return 1; } "
        + "kin int km() { return 1; } open static int sm() { return 1; } open final int fm() { return 1; } } class b.Q { } "
        + "open final class b.L { } open bare class b.R { open bare int r(); open bare b.P rr(); } "
        + "open class b.O only b.Q { } open face b.F { int f(); int g() { return 1; } static int sf() { return 1; } int cc = 2 * kk(); static int kk() { return 3; } } "
        + "open face b.G only b.H { } open face b.H { int g() { return 2; } } "
        + "open class b.I is z.Ill { } open class b.N { open new(int p) { } } open class b.D { own new() { } } face b.J { }";

    public static void main(String[] args) {
        reading();
        tooMuch();
        heads();
        members();
        above();
        whole();
        types();
        names();
        statics();
        fits();
        putsAndEnds();
        calls();
        makers();
        order();
        answers();
        Check.end("MakeTest");
    }

    private static void fault(int fault, String text) {
        Check.fault(BASE, fault, text);
    }

    private static void fine(String text) {
        Check.fine(BASE, text);
    }

    /** In a method of class a.A, that is no heir of anything. */
    private static void inMethod(int fault, String statements) {
        fault(fault, "class a.A { int x; static int s; final int e; void n() { " + statements + " } int i() { return 1; } }");
    }

    private static void fineIn(String statements) {
        fine("class a.A { int x; static int s; final int e; void n() { " + statements + " } int i() { return 1; } }");
    }

    private static void reading() {
        fine("");
        fine(" \n ");
        fine("class a.A{int x=1+2*3;}");
        fine("class a.A { int x=(1<2)==(2<1)-3;\n }");
        fine("class a.Abcdefgh9 { int abcdefghi9 = 123456789; }");
        fault(1, "@$");
        fault(1, "class a.A {@\t}");
        fault(1, "class @a.Abcdefghij { }");
        fault(1, "class a.A { int @abcdefghijk; }");
        fault(1, "class a.A { int x = @1234567890; }");
        fault(1, "class a.A { } @A");
        fault(1, "class a.A { int x = ab.@A; }");
        fault(1, "class a.A { int x = 1 @> 2; }");
        fault(1, "class a.A { int x = @" + (char) 200 + "; }");
        fault(2, "class a.A { int x = 12@abc; }");
        fault(2, "class @a { }");
        fault(2, "class a.A@");
        fault(2, "class a.A { }  class \n@");
        fault(2, "open @open class a.A { }");
        fault(2, "final @face a.A { }");
        fault(2, "class a.A as b.F @is b.P { }");
        fault(2, "class a.A in b.F @in a.B { }");
        fault(2, "class a.A as b.F,@{ }");
        fault(2, "class a.A { int @class; }");
        fault(2, "class a.A { open @start { } }");
        fault(2, "class a.A { static @new() { } }");
        fault(2, "class a.A { open @kin int x; }");
        fault(2, "class a.A { final @bare int x; }");
        fault(2, "class a.A { void x@; }");
        fault(2, "class a.A { void @(int x); }");
        fault(2, "class a.A { int x(int@) { } }");
        fault(2, "class a.A { int x(int a,@) { } }");
        fault(2, "class a.A { int f() @= 3; }");
        fault(2, "class a.A { new()@; }");
        fault(2, "class a.A { int x = 1 < 2 @< 3; }");
        fault(2, "class a.A { int x = 1 < 2 @== 3; }");
        fault(2, "class a.A { int x = a.A@; }");
        fault(2, "class a.A { int x = (a.A) @; }");
        fault(2, "class a.A { int x = (a.A@; }");
        fault(2, "class a.A { int x = super@(3); }");
        fault(2, "class a.A { int x = super.x@; }");
        fault(2, "class a.A { int x = a.A.super.x@; }");
        fault(2, "class a.A { int x = null ask @int; }");
        fault(2, "class a.A { int x = new @x(); }");
        fault(2, "class a.A { int x = new a.A@; }");
        inMethod(2, "if (a.P@) { }");
        inMethod(2, "@else { }");
        inMethod(2, "try @x(); catch (z.Ill e) { }");
        inMethod(2, "try { } @out 1;");
        inMethod(2, "try { } catch (z.Ill @) { }");
        inMethod(2, "let @x; ");
        inMethod(2, "out @; ");
        inMethod(2, "x = 1 @= 2; ");
        inMethod(2, "return @return ; ");
        inMethod(2, "throw @;");
        fineIn("if (1) if (0) { } else { }");
    }

    private static void tooMuch() {
        String twelve = "";
        for (int i = 0; i < 12; i++) {
            twelve += "class a.A" + i + " { } ";
        }
        fine(twelve);
        fault(3, twelve + "open final class @a.B { }");
        fault(2, twelve + "open final @face a.B { }");
        fine("class a.A { " + Check.times("start { } ", 20) + "}");
        fault(3, "class a.A { " + Check.times("start { } ", 20) + "@int x; }");
        fault(3, "class a.A { " + Check.times("start { } ", 20) + "@open 3 }");
        fault(2, "class a.A { " + Check.times("start { } ", 20) + "@out 3; }");
        String five = "face a.A { } face a.B { } face a.C { } face a.D { } face a.E { } ";
        fine(five + "class a.X as a.A, a.B, a.C, a.D { }");
        fault(3, five + "class a.X as a.A, a.B, a.C, a.D, @a.E { }");
        fine("class a.X only a.X, a.X, a.X, a.X, a.X, a.X, a.X, a.X { }");
        fault(3, "class a.X only a.X, a.X, a.X, a.X, a.X, a.X, a.X, a.X, @a.X { }");
        fine("class a.X with a.Y, a.Y, a.Y, a.Y, a.Y, a.Y, a.Y, a.Y { } class a.Y in a.X { }");
        fault(3, "class a.X with a.Y, a.Y, a.Y, a.Y, a.Y, a.Y, a.Y, a.Y, @a.Y { } class a.Y in a.X { }");
        fine("class a.A { void f(int a, int b, int c, a.A d) { } }");
        fault(3, "class a.A { void f(int a, int b, int c, int d, @int e) { } }");
        fault(2, "class a.A { void f(int a, int b, int c, int d, @e) { } }");
        // eight tokens, 228 times three, two; then six more: 700
        String many = "class a.A { void f() { " + Check.times("out 1 ; ", 228) + "} } class a.B is a.A { ";
        fine(many + "}");
        fault(3, many + "} @class a.C { }");
        fault(2, many + "} @12");
        fault(1, many + "} @$");
        fault(2, many + "@");
        fault(3, many + "int @x; }");
        nested();
    }

    /** The BLOCK of a MEMBER is within none, an S in it within one. */
    private static void nested() {
        fineIn(Check.times("{ ", 11) + Check.times("} ", 11));
        inMethod(3, Check.times("{ ", 11) + "@{ " + Check.times("} ", 12));
        fineIn(Check.times("{ ", 10) + "return ; " + Check.times("} ", 10));
        inMethod(3, Check.times("{ ", 10) + "out @1; " + Check.times("} ", 10));
        inMethod(3, Check.times("{ ", 10) + "@i(); " + Check.times("} ", 10));
        fineIn(Check.times("{ ", 9) + "try { } catch (z.Ill q) { } " + Check.times("} ", 9));
        inMethod(3, Check.times("{ ", 10) + "try @{ } catch (z.Ill q) { } " + Check.times("} ", 10));
        fault(3, "class a.A { new() " + Check.times("{ ", 11) + "super(@1); " + Check.times("} ", 12));
        fault(18, "class a.A { new() " + Check.times("{ ", 10) + "@super(1); " + Check.times("} ", 11));
        fineIn(Check.times("{ ", 9) + "i(); out 1; " + Check.times("} ", 9));
        inMethod(3, Check.times("{ ", 9) + "out (@1); " + Check.times("} ", 9));
        inMethod(3, Check.times("{ ", 11) + "@out 1; " + Check.times("} ", 11));
        inMethod(3, Check.times("{ ", 9) + "out i(@1); " + Check.times("} ", 9));
        fineIn(Check.times("{ ", 9) + "out i(); " + Check.times("} ", 9));
        inMethod(3, Check.times("{ ", 9) + "let a.A v = (a.A) @this; " + Check.times("} ", 9));
        inMethod(3, Check.times("{ ", 9) + "out (@a.A.s); " + Check.times("} ", 9));
        fault(3, "class a.A { int x = " + Check.times("(", 11) + "(@1" + Check.times(")", 12) + "; }");
        fine("class a.A { int x = " + Check.times("(", 11) + "1" + Check.times(")", 11) + "; }");
        fine("class a.A { int x = " + Check.times("1 * 2 + ", 80) + "1; }");
        fine("class a.A { a.A x; int y = x" + Check.times(".x", 300) + ".y; }");
        inMethod(3, Check.times("{ ", 9) + "if (0) { } else { @{ } } " + Check.times("} ", 9));
        fault(3, "class a.A { new() " + Check.times("{ ", 12) + "@super.x(); " + Check.times("} ", 13));
        fault(3, "class a.A { new() " + Check.times("{ ", 11) + "@super.x(); " + Check.times("} ", 12));
        fault(18, "class a.A { new() " + Check.times("{ ", 11) + "@super(); " + Check.times("} ", 12));
    }

    private static void heads() {
        fault(4, "class a.A { } class @a.A { }");
        fault(4, "class a.A { } face @a.A { }");
        fault(4, "class @z.A { }");
        fault(4, "class @z.Any { }");
        fine("class b.P { }");
        fault(5, "face a.A is @b.P { }");
        fault(5, "class a.A is @a.X { }");
        fault(5, "class a.A is @b.F { }");
        fault(5, "class a.A is @b.Q { }");
        fine("class b.X is b.Q { }");
        fault(5, "class a.A is @b.L { }");
        fault(5, "class a.A is @b.O { }");
        fine("class a.A is z.Any { } class a.B is z.Ill { } class a.C is b.P { }");
        fault(5, "class a.A as @a.X { }");
        fault(5, "class a.A as @b.P { }");
        fault(5, "class a.A as b.H, @b.J { }");
        fine("class b.A as b.J { }");
        fault(5, "class a.A as @b.G { }");
        fault(5, "class a.A as b.H, @b.H { }");
        fine("face a.F only a.A { } class a.A as a.F { } class a.B only a.C { } class a.C is a.B { }");
        fault(5, "class a.A in @a.B { }");
        fault(5, "class a.A in @a.B { } class a.B { }");
        fault(5, "class a.A in @b.B { } class b.B with a.A { }");
        fault(5, "class a.A in @b.P { }");
        fine("class a.A in a.B { } face a.B with a.A { }");
        fault(5, "class a.A with @b.P { }");
        fault(5, "class a.A with a.B, @a.C { } class a.B in a.A { } class a.C { }");
        fault(5, "class a.A only a.A, @b.P { }");
        fault(5, "class @a.A is a.B { } class a.B is a.A { }");
        fault(5, "class a.B { } class @a.A is a.A { }");
        fault(5, "face @a.F as a.G { } face a.G as a.F { }");
        fault(5, "class a.A is a.B { } class a.B is a.A { } class a.C is @a.X { }");
        Check c = new Check();
        c.stand(0, "open class a.A { }");
        c.stand(1, "open class b.B is a.A { }");
        Check.due("a ring through the world", c.make(0, "open class a.C { } open class a.A is b.B { }"), -15);
        Check.due("its place", c.x.place(), 30);
        c.x.pick(1, LinkHouse.NONE);
        Check.due("no such class", c.make(0, "open class a.A is b.B { }"), -15);
        Check.due("its place", c.x.place(), 18);
    }

    private static void members() {
        fault(8, "class a.A { bare int @f() { } }");
        fault(8, "bare class a.A { bare int @f() { } }");
        fault(8, "class a.A { int @f(); }");
        fault(8, "bare class a.A { own bare int @f(); }");
        fault(8, "bare class a.A { static bare int @f(); }");
        fault(8, "class a.A { bare int @f(); }");
        fault(8, "class a.A { bare int @f; }");
        fine("bare class a.A { bare int f(); kin bare int g(); open bare int h(); }");
        fault(8, "face a.A { open @new() { } }");
        fault(8, "face a.A { @start { } }");
        fault(8, "face a.A { bare int @f = 1; }");
        fault(8, "face a.A { own int @f = 1; }");
        fault(8, "face a.A { kin int @f = 1; }");
        fault(8, "face a.A { int @f; }");
        fault(8, "face a.A { kin int @f(); }");
        fault(8, "face a.A { final int @f() { } }");
        fault(8, "face a.A { bare int @f() { } }");
        fault(8, "face a.A { static int @f(); }");
        fault(8, "face a.A { own int @f(); }");
        fine("face a.A { open static final int f = 1; bare int g(); own int h() { return 1; } own static int i() { return 1; } }");
        fault(7, "class a.A { @a.B f; }");
        fault(7, "class a.A { @b.Q f; }");
        fault(7, "class a.A { @b.Q f() { } }");
        fault(7, "class a.A { b.P f(a.A p, @b.Q q) { } }");
        fault(7, "class a.A { new(int p, @a.C q) { } }");
        fine("class b.A { b.Q f; b.J g; }");
        fault(6, "class a.A { int f; b.P @f; }");
        fault(6, "class a.A { int f; int f(int p) { return 1; } static void @f(int q) { } }");
        fault(6, "class a.A { new(a.A p) { } open @new(a.A q) { } }");
        fine("class a.A { int f; int f() { return 1; } int f(int p) { return 1; } int f(a.A p) { return 1; } new() { } new(int p) { } }");
        fault(8, "class a.A { bare a.X @f; }");
        fault(7, "class a.A { int f; @a.X f; }");
    }

    private static void above() {
        fault(9, "class a.A is b.P { open static int @m() { return 1; } }");
        fault(9, "class a.A is b.P { open int @sm() { return 1; } }");
        fault(9, "class a.A is b.P { open int @fm() { return 1; } }");
        fault(9, "class a.A is b.P { int @m() { return 1; } }");
        fault(9, "class a.A is b.P { kin int @m() { return 1; } }");
        fault(9, "class a.A is b.P { int @km() { return 1; } }");
        fault(9, "class a.A is b.P { open void @m() { } }");
        fault(9, "class a.A is b.P { open z.Any @m() { return null; } }");
        fault(9, "class a.A is b.P { own int @m() { return 1; } }");
        fine("class a.A is b.P { int pm() { return 1; } own b.P om() { return null; } static int sm() { return 2; } kin int km() { return 2; } open int m(int p) { return 1; } }");
        fault(9, "class b.A is b.P { own int @pm() { return 1; } }");
        fine("class a.A is b.P { static z.Any pm() { return null; } static void om() { } }");
        fine("class a.A as b.F { open int f() { return 1; } int sf() { return 2; } }");
        fault(9, "class b.A is b.P { static int @pm() { return 1; } }");
        fault(9, "class a.A as b.F { int @f() { return 1; } }");
        fault(9, "face a.A as b.F { void @g(); }");
        fine("class a.A as b.F { open int f() { return 1; } static void sf() { } }");
        fine("class a.A { open z.Any f() { return null; } } class a.B is a.A { open a.A f() { return this; } } class a.C is a.B { open a.B f() { return this; } }");
        fault(9, "class a.A { open z.Any f() { return null; } } class a.B is a.A { open a.A f() { return this; } } class a.C is a.B { open z.Any @f() { return this; } }");
        fault(9, "face a.F { } class a.A { open a.A f() { return this; } } class a.B is a.A { open a.F @f() { return null; } }");
        fine("face a.F { } class a.A { open z.Any f() { return this; } } class a.B is a.A { open a.F f() { return null; } }");
        bridges();
    }

    private static void bridges() {
        String up = "";
        String down = "";
        for (int i = 0; i < 12; i++) {
            up += "open z.Any f" + i + "() { return this; } ";
            down += "open a.A f" + i + "() { return this; } ";
        }
        fine("class a.A { " + up + "} class a.B is a.A { " + down + "}");
        fault(3, "class a.A { " + up + "open z.Any g() { return null; } } class @a.B is a.A { " + down + "open a.A g() { return null; } }");
    }

    private static void whole() {
        fault(10, "class @a.A is b.R { }");
        fault(10, "class @a.A is b.R { open int r() { return 1; } }");
        fine("class a.A is b.R { open int r() { return 1; } open b.P rr() { return null; } }");
        fine("bare class a.A is b.R { } face a.F as b.F { }");
        fault(10, "class @a.A as b.F { }");
        fault(10, "face a.G { int g() { return 3; } int f() { return 4; } } class @a.A as b.F, a.G { }");
        fine("face a.G as b.F { int g() { return 3; } int f() { return 4; } } class a.A as b.F, a.G { }");
        fine("face a.G { int g() { return 3; } int f() { return 4; } } class a.A as b.F, a.G { open int f() { return 1; } open int g() { return 2; } }");
        fault(10, "open bare class a.A { bare int f(); } class @b.B is a.A { }");
        fault(10, "open bare class a.A { bare int f(); } class @b.B is a.A { int f() { return 1; } }");
    }

    private static void types() {
        inMethod(7, "let @a.X v = null;");
        inMethod(7, "let @b.Q v = null;");
        inMethod(7, "try { } catch (@a.X e) { }");
        inMethod(7, "let z.Any v = (@b.Q) null;");
        inMethod(7, "out this ask @b.Q;");
        inMethod(7, "new @b.Q();");
        inMethod(7, "out @b.Q.x;");
        inMethod(7, "out @b.Q.x();");
        inMethod(7, "out @b.J.super.x();");
        fineIn("let b.F v = null; out v ask b.F; let z.Any w = (b.F) v; try { } catch (b.I e) { }");
        inMethod(16, "let int y = 1; let int @y = 2;");
        inMethod(16, "let int y = 1; { let a.A @y = null; }");
        fineIn("{ let int y = 1; } let int y = 2; if (1) let int z = 1; let int z = 3; while (0) let int q = 1; out y + z;");
        inMethod(11, "if (1) let int z = 1; out @z;");
        inMethod(11, "let int z = @z;");
        inMethod(11, "{ let int z = 1; } @z = 1;");
        fault(16, "class a.A { void f(int p, a.A @p) { } }");
        fault(16, "class a.A { void f(int p) { let int @p = 1; } }");
        fault(16, "bare class a.A { bare void f(int p, int @p); }");
        inMethod(16, "let int e = 1; try { } catch (z.Ill @e) { }");
        inMethod(16, "try { } catch (z.Ill q) { let int @q = 1; }");
        fineIn("try { } catch (z.Ill q) { } let int q = 1; let int x = 2; out x + q;");
    }

    private static void names() {
        inMethod(11, "out @y;");
        inMethod(11, "out a.A.@y;");
        inMethod(11, "out this.@y;");
        inMethod(11, "out new b.P().@kf;");
        inMethod(11, "out new b.P().@pf;");
        inMethod(11, "out new b.P().@of;");
        fineIn("out x + a.A.s + s + this.x + new b.P().xf + b.P.xs;");
        fine("class a.A is b.P { int f() { return kf + this.kf + new a.A().kf; } }");
        fault(11, "class a.A is b.P { int f() { return @pf; } }");
        fine("class a.A is b.P { int f(b.P p) { return p.kf; } }");
        fault(11, "class a.C is b.P { } class a.A is b.P { int f(a.C p) { return p.@kf; } }");
        fine("class b.A { int f(b.P p) { return p.kf + p.pf + p.km() + p.pm(); } }");
        fault(11, "class b.A { int f(b.P p) { return p.@of; } }");
        fine("class a.A with a.B { own int x; own int f() { return 1; } } class a.B in a.A { own int y; int f(a.A v) { return v.x + v.f(); } }"
            + " class a.C with a.D { int g(a.D v) { return v.y; } } class a.D in a.C { own int y; }");
        fault(11, "class a.A with a.B, a.C { } class a.B in a.A { own int y; } class a.C in a.A { int f(a.B v) { return v.y; } } class a.D { int f(a.B v) { return v.@y; } }");
        fine("face a.F { int q = 1; } face a.G { int q = 2; int r = 3; } class a.P { int q; int r; } class a.A is a.P as a.F, a.G { int f() { return a.A.q + a.A.r; } }");
    }

    private static void statics() {
        fault(14, "class a.A { static a.A f() { return @this; } }");
        fault(14, "class a.A { int x; static int f() { return @x; } }");
        fault(14, "class a.A { int x; static int y = @x; }");
        fault(14, "class a.A { int x; start { out @x; } }");
        fault(14, "class a.A { int g() { return 1; } static int f() { return @g(); } }");
        fault(14, "class a.A { int g() { return 1; } static int f() { return a.A.@g(); } }");
        inMethod(14, "out a.A.@x;");
        inMethod(14, "out a.A.@i();");
        inMethod(14, "out this.@s;");
        inMethod(14, "out new b.P().@sm();");
        fault(14, "class a.A is b.P { static int f() { return @super.m(); } }");
        fault(14, "class a.A is b.P { int f() { return super.@sm(); } }");
        fault(14, "class a.A is b.P { static int f() { return @super.sm(); } }");
        fault(14, "bare class a.A as b.F { static int h() { return b.F.@super.g(); } }");
        fault(14, "bare class a.A as b.F { int f2() { return b.F.super.@sf(); } }");
        fine("class a.A { int x; static int s; int f() { return x + s + this.f() + g(); } static int g() { return s + g() + a.A.g(); } }");
    }

    private static void fits() {
        fault(13, "class a.A { int x = @null; }");
        fault(13, "class a.A { a.A x = @1; }");
        fault(13, "class a.A { a.A x = @new b.P(); }");
        inMethod(13, "x = @null + 1;");
        inMethod(13, "x = 1 - @this;");
        inMethod(13, "x = @this * null;");
        inMethod(13, "out 1 < @null;");
        inMethod(13, "out @this;");
        inMethod(13, "out @n();");
        inMethod(13, "if (@this) { }");
        inMethod(13, "while (@null) { }");
        inMethod(13, "out @n() == 1;");
        inMethod(13, "out 1 == @n();");
        inMethod(13, "out 1 == @this;");
        inMethod(13, "out null == @1;");
        inMethod(13, "let a.A v = @1;");
        inMethod(13, "x = @this;");
        inMethod(13, "throw @this;");
        inMethod(13, "throw @1;");
        inMethod(13, "let a.A v = (a.A) @1;");
        inMethod(13, "let a.A v = (a.A) @n();");
        inMethod(13, "out @1 ask a.A;");
        inMethod(13, "out @1.x;");
        inMethod(13, "out @null.x;");
        inMethod(13, "out @n().x;");
        inMethod(13, "out @s.f(1);");
        inMethod(13, "try { } catch (@a.A e) { }");
        inMethod(13, "try { } catch (@z.Any e) { }");
        fault(13, "class a.A { b.P f() { return @this; } }");
        fineIn("out null == null; out this == null; out this == new b.P(); throw null;");
        fine("class a.A is b.P as b.H { b.P x = this; b.H y = this; z.Any z = y; b.P u = null; z.Any v = new a.A(); a.A w = (a.A) y; int i = (null ask b.F) + 1; }");
        fine("class a.A { void f() { throw new b.I(); } }");
    }

    private static void putsAndEnds() {
        inMethod(15, "@1 = 2;");
        inMethod(15, "@(x) = 2;");
        inMethod(15, "@i() = 2;");
        inMethod(15, "@e = 2;");
        inMethod(15, "@this.e = 2;");
        inMethod(15, "@x + x = 2;");
        inMethod(15, "@b.P.kk = 2;");
        inMethod(15, "@new b.P().xe = 2;");
        inMethod(15, "@(a.A) null = null;");
        fault(15, "class a.A { final int e; start { @new a.A().e = 2; } }");
        fault(15, "class a.A { static final int e; new() { @e = 2; } }");
        fault(15, "class a.A is b.P { new() { @xe = 2; } }");
        fine("class a.A { final int e; static final int t; new(a.A p) { e = 1; this.e = 2; p.e = 3; } start { t = 4; a.A.t = 5; } }");
        fineIn("x = 1; this.x = 2; s = 3; a.A.s = 4; new a.A().x = 5; let int v = 1; v = 6; b.P.xs = 7;");
        inMethod(19, "@x;");
        inMethod(19, "@1 + i();");
        inMethod(19, "@(i());");
        inMethod(19, "@(b.P) null;");
        inMethod(19, "@this ask a.A;");
        inMethod(19, "@this.x;");
        fineIn("i(); this.i(); new a.A(); b.P.sm(); new a.A().i(); n();");
        inMethod(17, "@return 1;");
        inMethod(11, "return @zz;");
        fault(17, "class a.A { int f() { @return ; } }");
        fault(17, "class a.A { new() { @return 1; } }");
        fault(17, "class a.A { start { @return ; } }");
        fault(17, "class a.A { start { @return 1; } }");
        fault(17, "class a.A { int @f() { } }");
        fault(17, "class a.A { int @f() { if (1) return 1; } }");
        fault(17, "class a.A { int @f() { while (1) return 1; } }");
        fault(17, "class a.A { int @f() { try { return 1; } catch (z.Ill e) { } } }");
        fault(17, "class a.A { int @f() { if (1) { return 1; } else { out 1; } } }");
        fine("class a.A { int f() { if (1) return 1; else throw null; } int g() { try { return 1; } catch (z.Ill e) { { throw e; } } } int h() { { return 1; } out 2; } "
            + "void i() { return ; } new() { return ; } int j() { throw null; } }");
    }

    private static void calls() {
        inMethod(12, "@zz();");
        inMethod(12, "@i(1);");
        inMethod(12, "this.@zz();");
        inMethod(12, "new b.P().@km();");
        inMethod(12, "new b.P().@om();");
        inMethod(12, "new b.P().@pm();");
        inMethod(12, "b.P.@zz();");
        inMethod(12, "super.@i();");
        fine("class a.A is b.P { int f() { return km() + super.km() + sm() + a.A.sm(); } }");
        fault(12, "class a.A is b.P { int f() { return @pm(); } }");
        fault(12, "bare class a.A is b.R { int f() { return super.@r(); } }");
        fine("bare class a.A is b.R { int f() { return r() + this.r(); } }");
        fault(12, "face a.F as b.F { int h() { return super.@g(); } }");
        fine("face a.F as b.F { int h() { return b.F.super.g() + g() + f(); } }");
        fault(12, "bare class a.A as b.F { int h() { return b.F.super.@f(); } }");
        fault(12, "class a.A { int h() { return b.F.super.@g(); } }");
        fault(12, "bare class a.A as b.F { int h() { return @sf(); } }");
        fault(12, "bare class a.A as b.F { int h() { return a.A.@sf(); } }");
        fine("bare class a.A as b.F { int h() { return b.F.sf() + g(); } }");
        String over = "class a.A { int f(z.Any p) { return 1; } int f(b.P p) { return 2; } int f(b.I p) { return 3; } int f(int p) { return 4; } "
            + "int g(b.P p, z.Any q) { return 5; } int g(z.Any p, b.P q) { return 6; } ";
        fine(over + "int h() { return f(new b.P()) + f(new b.I()) + f(this) + f(1) + g(new b.P(), this) + g(this, new b.P()); } }");
        fault(12, over + "int h() { return @f(null); } }");
        fault(12, over + "int h() { return @g(new b.P(), new b.P()); } }");
        fault(12, over + "int h() { return @f(v()); } void v() { } }");
        fault(13, over + "int h() { return f(1 + @null); } }");
    }

    private static void makers() {
        inMethod(18, "new @b.F();");
        inMethod(18, "new @b.R();");
        inMethod(18, "new @b.P(1);");
        inMethod(18, "new @b.P(new b.P());");
        inMethod(18, "new @b.N();");
        inMethod(18, "@super();");
        inMethod(18, "new @b.D();");
        fine("class a.A is b.P { new() { super(1); new b.P(2); } }");
        fault(18, "class a.A is b.P { new() { @super(this); } }");
        fault(18, "class a.A { new() { out 1; @super(); } }");
        fault(18, "class a.A { new() { { @super(); } } }");
        fault(18, "class a.A is b.N { @new() { } }");
        fault(18, "class a.A is b.N { open @new() { out 1; } }");
        fault(18, "class @a.A is b.N { }");
        fault(18, "class @a.A is b.D { int x = 1; }");
        fine("class a.A is b.N { new() { super(1); } } class a.B is z.Ill { } class a.C { new() { super(); } }");
        fault(12, "class a.A is b.N { int f() { return @zz(); } new() { super(2); } }");
        fault(18, "class a.A is b.N { @new() { zz(); } }");
        fault(16, "class a.A is b.N { new(int p, int @p) { } }");
    }

    /** What is ahead of what. */
    private static void order() {
        fault(5, "class a.A is @a.X { } class z.B { }");
        fault(4, "class a.B { } class @z.B { } class a.A is a.X { int f() { } }");
        fault(7, "class a.A { int f() { return zz; } } class a.B { @a.X x; }");
        fault(6, "class a.A { int f; int @f; a.X g; }");
        fault(9, "class a.A is b.P { open void @m() { } } class a.B is b.R { }");
        fault(10, "class a.C { int x = zz; } class @a.B is b.R { }");
        fault(13, "class a.A { int x = @null; int y = zz; }");
        fault(11, "class a.A { int x = @zz + null; }");
        fault(13, "class a.A { int x = @null + 1 + zz; }");
        fault(11, "class a.A { void f() { this.@zz = null.x; } }");
        fault(11, "class a.A { final int e; void f() { e = @zz; } }");
        fault(15, "class a.A { final int e; void f() { @e = null; } }");
        fault(13, "class a.A { void f() { let int f2 = @null; let int f2 = 1; } }");
        fault(12, "class a.A { static void f() { super.@zz(); } }");
        fault(11, "class a.A { void f(int p) { f(@zz); g(); } }");
        fault(7, "class a.A { void f() { @a.X.f(zz); } }");
        fault(11, "class a.A { void f() { @zz ask a.X; } }");
        fault(7, "class a.A { void f() { out 1 ask @a.X; } }");
        fault(13, "class a.A { void f(int p) { out @p.x(1 + p); } }");
        fault(11, "class a.A { void f(int p) { out p.x(@zz); } }");
        fault(13, "class a.A { void f() { if (@null) zz(); } }");
        fault(17, "class a.A { int @f() { } a.A x = 1; }");
    }

    private static void answers() {
        Check c = new Check();
        Check.due("make in no library", c.make(5, "class a.A { }"), LinkHouse.BAD);
        Check.due("make in no library", c.x.make(-1), LinkHouse.BAD);
        Check.due("the tape stays", c.x.told(6), 13);
        Check.due("place", c.x.place(), LinkHouse.NONE);
        Check.due("a fault", c.make(0, "class"), -12);
        Check.due("place", c.x.place(), 5);
        Check.due("BAD leaves place", c.x.make(9), LinkHouse.BAD);
        Check.due("place", c.x.place(), 5);
        for (int i = 0; i < 8; i++) {
            Check.due("build " + i, c.make(0, "class a.A { }"), i);
            Check.due("place", c.x.place(), LinkHouse.NONE);
        }
        Check.due("a fault", c.make(1, "class a.A { }$"), -11);
        Check.due("eight builds", c.make(0, "class a.A { }"), LinkHouse.FULL);
        Check.due("the tape stays", c.x.told(6), 13);
        Check.due("FULL leaves place", c.x.place(), 13);
        for (int i = 0; i < 8; i++) {
            Check.due("build " + i, c.make(3, ""), i);
        }
        Check.due("sixteen builds", c.make(1, "class a.A { }"), LinkHouse.FULL);
        Check.due("sixteen builds", c.x.told(7), 16);
        Check.due("BAD ahead of FULL", c.x.make(7), LinkHouse.BAD);
    }
}
