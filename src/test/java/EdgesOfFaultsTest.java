/** Which FAULT of a body is the first, and where it is told: of two sides, of parts and the whole, of each sort of type by each sign. */
public final class EdgesOfFaultsTest {
    /** What may stand in the bodies below: fields, methods and makers of each sort. */
    private static final String WORLD = "open class b.P { int h; open int m(int p) { return 1; } open static int t() { return 1; } } open face b.F { int d(int p) { return 1; } static int u() { return 1; } } class b.N { } ";
    private static final String HEAD = "class a.A is b.P as b.F { int x; static int s; final int e; static final int k = 1; a.A o; new() { } new(int p) { } new(int p, a.A q) { } void v() { } static void w() { } int f(int p) { return 1; } int g(int p, int q) { return 1; } int j(a.A p) { return 1; } static int i(int p) { return 1; } ";

    /** An E with a FAULT at '@', and which. */
    private static final String[][] ODD = {
        {"@y", "11"}, {"o.@y", "11"}, {"a.A.@y", "11"}, {"b.P.@h", "11"}, {"@y()", "12"}, {"@f()", "12"}, {"o.@f(null)", "12"}, {"a.A.@y()", "12"}, {"super.@m()", "12"}, {"b.F.super.@d()", "12"}, {"@b.N.y", "7"}, {"@a.Z.y()", "7"}, {"new @a.Z()", "7"}, {"(@b.N) o", "7"}, {"o ask @b.N", "7"},
        {"@1.x", "13"}, {"@null.x", "13"}, {"@v().x", "13"}, {"(1 + @null)", "13"}, {"(a.A) @x", "13"}, {"@x ask a.A", "13"}, {"new @a.A(o)", "18"}, {"new @b.F()", "18"}, {"a.A.@x", "14"}, {"o.@s", "14"}, {"a.A.@f(1)", "14"}, {"o.@i(1)", "14"}, {"super.@t()", "14"},
    };

    public static void main(String[] args) {
        firstOfTwo();
        partsAheadOfTheWhole();
        theWholeAheadOfTwo();
        thirteenAhead();
        fourteenBehind();
        whatIsStatic();
        intsBySigns();
        typesBySame();
        wantedTypes();
        Check.end("EdgesOfFaultsTest");
    }

    private static String text(String statements) {
        return HEAD + "void z() { " + statements + " } }";
    }

    private static void holds(int fault, String text) {
        if (fault == 0) {
            Check.fine(WORLD, text.replace("@", ""));
        } else {
            Check.fault(WORLD, fault, text);
        }
    }

    private static String without(String odd) {
        return odd.replace("@", "");
    }

    /** Of an E its parts from the left; of S's what they have in order. */
    private static void firstOfTwo() {
        String[] all = {"out # + $;", "out # - $;", "out # * $;", "out # < $;", "out # == $;", "out g(#, $);", "out o.g(#, $);", "a.A.i(# + $);", "new a.A(#, $);", "out (#) * ($);", "out f(#) + f($);", "super.m(# * $);", "b.F.super.d(# - $);", "out o.f(#) < o.f($);", "out 1 + # * 2 == $ - 3;",
            "x = #; x = $;", "let int p = #; let int q = $;", "if (1) out #; else out $;", "if (0) { out #; } out $;", "while (0) out #; out $;", "try { out #; } catch (z.Ill q) { out $; }", "{ out #; } { out $; }", "out #; return $;", "out #; throw $;", "out #; super($);", "new a.A(#).x = $;", "o.o = new a.A(#, $);", "f(g(#, $));"};
        for (String s : all) {
            for (int first = 0; first < ODD.length; first++) {
                for (int second = first % 3; second < ODD.length; second += 3) {
                    holds(Integer.parseInt(ODD[first][1]), text(s.replace("#", ODD[first][0]).replace("$", without(ODD[second][0]))));
                }
            }
        }
    }

    /** What an E, an S has is ahead of its own FAULT. */
    private static void partsAheadOfTheWhole() {
        String[] all = {"zz(#);", "o.zz(#);", "f(#, 1);", "out x.f(#);", "out null.f(#);", "out v().f(#);", "a.A.zz(#);", "super.zz(#);", "b.F.super.zz(#);", "b.P.super.m(#);", "new a.A(1, #, 1);", "new b.F(#);", "a.A.f(#);", "o.i(#);", "super.t(#);", "out (#).zz;", "out (#).zz();", "out (#) ask a.A + null;", "(#);", "# + 1;", "1 = #;", "e = #;", "k = #;",
            "(x) = #;", "o.e = #;", "f(1) = #;", "let a.A x = #;", "let int p = 1; let int p = #;", "return #;", "super(#);", "throw (#) + 1;", "let a.A q = (#) + 1;", "if ((#) == null) { }", "out (a.A) (#);", "j((#));", "x = (#) ask a.A; y = 1;"};
        for (String s : all) {
            for (String[] odd : ODD) {
                holds(Integer.parseInt(odd[1]), text(s.replace("#", odd[0])));
            }
        }
    }

    /** What is told ahead of that E: the C of let, new, a CAST, C.NAME( ), C.super; the L of =; a local's scope is behind all. */
    private static void theWholeAheadOfTwo() {
        String[][] all = {{"7", "let @a.Z p = #;"}, {"7", "let @b.N p = #;"}, {"7", "new @a.Z(#);"}, {"7", "o = (@a.Z) (#);"}, {"7", "@a.Z.f(#);"}, {"7", "@b.N.super.f(#);"}, {"11", "@yy = #;"}, {"11", "o.@yy = #;"}, {"14", "a.A.@x = #;"}, {"14", "o.@s = #;"}, {"13", "if (@null) out #;"}, {"13", "while (@this) out #;"}, {"13", "@1.x = #;"}, {"12", "o.@zz().x = #;"},
            {"7", "try { } catch (@a.Z q) { out #; }"}, {"13", "try { } catch (@a.A q) { out #; }"}, {"16", "let int p = 1; try { } catch (z.Ill @p) { out #; }"}, {"16", "let int p = 1; let int @p = 2; out #;"}, {"17", "@return 1; out #;"}, {"19", "@1; out #;"}, {"15", "@1 = 1; out #;"}, {"18", "@super(); out #;"}, {"13", "throw @this; out #;"}};
        for (String[] each : all) {
            for (String[] odd : ODD) {
                holds(Integer.parseInt(each[0]), text(each[1].replace("#", without(odd[0]))));
            }
        }
        // A field's E, then 13; PARAMS, then super( ), then the BLOCK, then 17.
        for (String[] odd : ODD) {
            int fault = Integer.parseInt(odd[1]);
            holds(fault, HEAD + "a.A y1 = (" + odd[0] + ") + 1; int y2 = null; }");
            holds(13, HEAD + "a.A y1 = @1; int y2 = " + without(odd[0]) + "; }");
            holds(16, HEAD + "new(int p, int q, int @p) { out " + without(odd[0]) + "; } }");
            holds(16, HEAD + "new(int p, int q, int @p) { super(" + without(odd[0]) + "); } }");
            holds(fault, HEAD + "new(int p, int q, int r) { super(" + odd[0] + "); super(); } }");
            holds(fault, HEAD + "int y1() { out " + odd[0] + "; } }");
            holds(17, HEAD + "int @y1() { } void y2() { out " + without(odd[0]) + "; } }");
            holds(18, "class a.Y { new(int p) { } } class a.A is a.Y { @new() { out " + without(odd[0]) + "; } }");
            holds(18, "class a.Y { new(int p) { } } class @a.A is a.Y { } class a.B { int y1 = " + without(odd[0]) + "; }");
        }
    }

    /** 13 ahead of 11, 12, 18. */
    private static void thirteenAhead() {
        for (String e : new String[] {"1", "x", "null", "v()", "f(1)", "(1 + x)", "(o ask a.A)", "((null))", "o.f(1)", "o.v()"}) {
            holds(13, text("out @" + e + ".zz;"));
            holds(13, text("out @" + e + ".zz();"));
            holds(13, text("out @" + e + ".f(1);"));
            holds(13, text("out @" + e + ".s;"));
            holds(13, text("@" + e + ".i(1);"));
            holds(13, text("@" + e + ".x = 1;"));
        }
        holds(11, text("out o.@zz.x;"));
        holds(13, text("out @o.x.zz;"));
        holds(13, text("out @o.o.x.zz.y;"));
        holds(13, text("out @o.f(1).zz();"));
        holds(13, text("out @(o).x.zz();"));
        holds(13, text("out 1 + @o.x.zz();"));
        holds(13, text("out @new a.A().v().zz;"));
        holds(13, text("out @new a.A().x ask a.A;"));
    }

    /** 11, 12, 18 ahead of 14; super's own 14 ahead of the NAME's. */
    private static void fourteenBehind() {
        String in = HEAD + "static void y() { ";
        holds(12, in + "super.@zz(); } }");
        holds(12, in + "super.@m(null); } }");
        holds(14, in + "@super.m(1); } }");
        holds(14, in + "@super.t(); } }");
        holds(12, in + "b.F.super.@zz(); } }");
        holds(12, in + "b.P.super.@m(1); } }");
        holds(14, in + "b.F.@super.d(1); } }");
        holds(14, in + "b.F.@super.u(); } }");
        holds(14, in + "@this.zz; } }");
        holds(14, in + "@this.x = 1; } }");
        holds(14, in + "@f(1); } }");
        holds(12, in + "@f(null); } }");
        holds(14, in + "f(@x); } }");
        holds(14, in + "zz(@x); } }");
        holds(14, in + "new a.A(@this, 1); } }");
        holds(14, in + "out @x + null; } }");
        holds(14, in + "1 = @x; } }");
        holds(14, in + "@e = 1; } }");
        holds(14, in + "return @x; } }");
        holds(14, in + "b.F.super.zz(@x); } }");
        holds(11, in + "out b.P.@h; } }");
        holds(12, text("a.A.@f(null);"));
        holds(12, text("o.@i(null);"));
        holds(14, text("a.A.@f(1);"));
    }

    /** In static methods, static fields' E's, start: this, super, NAME, NAME( ) of what is not static; elsewhere they may be. */
    private static void whatIsStatic() {
        String[] odd = {"@this == null", "@x", "@f(1)", "@super.m(1)", "b.F.@super.d(1)", "@o == null", "g(@x, 1)", "i(@x)", "@this.x", "(a.A) @this == null", "@o.s"};
        for (String e : odd) {
            holds(14, HEAD + "static int y1 = " + e + "; }");
            holds(14, HEAD + "static final int y1 = " + e + "; }");
            holds(14, HEAD + "static int y1() { return " + e + "; } }");
            holds(14, HEAD + "start { out " + e + "; } }");
            if (!e.contains("@o.s")) {
                holds(0, HEAD + "int y1 = " + e + "; final int y2 = " + e + "; int y3() { return " + e + "; } new(a.A y4) { out " + e + "; } }");
            }
        }
        String fine = "s + k + i(1) + a.A.s + a.A.i(1) + t() + b.P.t() + b.F.u() + new a.A().x + new a.A().f(1)";
        holds(0, HEAD + "static int y1 = " + fine + "; static int y2() { return " + fine + "; } start { out " + fine + "; } int y3 = " + fine + "; }");
        holds(14, "face a.F { int x = @f(); int f() { return 1; } }");
        holds(14, "face a.F { a.F x = @this; }");
        holds(14, "face a.F { int f() { return 1; } static int g() { return @f(); } }");
        holds(0, "face a.F { int x = g(); static int g() { return x; } int f() { return x + g() + this.f(); } }");
    }

    private static final String[] VALUES = {"1", "x", "f(1)", "(1)", "1 + x", "2 * x", "1 < 2", "o ask a.A"};
    private static final String[] OTHERS = {"null", "this", "o", "v()", "(null)", "o.o", "new a.A()", "(a.A) null", "(v())"};

    /** Int by + - * <, if, while, out: the left one ahead of the right one. */
    private static void intsBySigns() {
        String[][] signs = {{"+", ""}, {"-", ""}, {"*", "+"}, {"<", "<"}};
        for (String[] sign : signs) {
            for (String odd : OTHERS) {
                holds(13, text("out @" + odd + " " + sign[0] + " 1;"));
                holds(13, text("out 1 " + sign[0] + " @" + odd + ";"));
                for (String other : OTHERS) {
                    holds(13, text("out @" + odd + " " + sign[0] + " " + other + ";"));
                }
            }
        }
        for (String odd : OTHERS) {
            holds(13, text("out 1 + 2 + @" + odd + ";"));
            holds(13, text("out 1 + @" + odd + " + 2;"));
            holds(13, text("out @" + odd + " - 1 + 2;"));
            holds(13, text("out 1 * 2 * @" + odd + ";"));
            holds(13, text("out 1 + 2 * @" + odd + ";"));
            holds(13, text("out @" + odd + " * 1 + 2;"));
            holds(13, text("out 1 < 2 * @" + odd + ";"));
            holds(13, text("out @" + odd + " + 1 < 2;"));
            for (String s : new String[] {"out @#;", "if (@#) { }", "if (@#) { } else { }", "while (@#) { }", "let int p = @#;", "x = @#;", "o.x = @#;", "s = @#;"}) {
                holds(13, text(s.replace("#", odd)));
            }
            holds(12, text("@f(" + odd + ");"));
            holds(18, text("new @a.A(" + odd + ");"));
            holds(13, HEAD + "int y1() { return @" + odd + "; } }");
            holds(13, HEAD + "int y1 = @" + odd + "; }");
        }
        for (String one : VALUES) {
            for (String s : new String[] {"out #;", "if (#) { }", "while (#) { }", "let int p = #;", "x = #;", "f(#);", "new a.A(#);", "out (#) + (#) - (#) * (#);", "out (#) < (#);", "out (#) == (#);"}) {
                holds(0, text(s.replace("#", one)));
            }
        }
    }

    /** By == a left one that is void, a right one that is, or that is int when the left one is not, or the other way round. */
    private static void typesBySame() {
        String[] voids = {"v()", "w()", "o.v()", "a.A.w()", "(v())"};
        String[] refs = {"null", "this", "o", "new a.A()", "(b.F) null", "(null)", "new z.Ill()", "new z.Any()"};
        String[] ints = {"1", "x", "f(1)", "(1 < 2)", "1 + 2"};
        for (String v : voids) {
            for (String[] group : new String[][] {voids, refs, ints}) {
                for (String e : group) {
                    holds(13, text("out @" + v + " == " + e + ";"));
                }
            }
        }
        for (String[] group : new String[][] {refs, ints}) {
            for (String e : group) {
                for (String v : voids) {
                    holds(13, text("out " + e + " == @" + v + ";"));
                }
                for (String r : refs) {
                    holds(group == refs ? 0 : 13, text("out " + e + " == @" + r + ";"));
                }
                for (String i : ints) {
                    holds(group == ints ? 0 : 13, text("out " + e + " == @" + i + ";"));
                }
            }
        }
    }

    /** What the type wants, by let, =, return, ARGS, a field's =; z.Ill by throw; a class, face or null by CAST, ask; in front of '.' no null. */
    private static void wantedTypes() {
        for (String i : new String[] {"1", "x", "f(1)", "v()", "(1 + 2)", "o ask a.A", "1 == 2"}) {
            for (String s : new String[] {"let a.A p = @#;", "o = @#;", "o.o = @#;", "let z.Any p = @#;", "let b.F p = @#;", "throw @#;", "out (a.A) @(#) == null;", "out @(#) ask a.A;", "out @(#) ask z.Any;", "o = (z.Any) @(#);"}) {
                holds(13, text(s.replace("#", i)));
            }
            holds(12, text("@j(" + i + ");"));
            holds(13, HEAD + "a.A y1() { return @" + i + "; } }");
            holds(13, HEAD + "a.A y1 = @" + i + "; }");
        }
        for (String r : new String[] {"null", "this", "o", "new a.A()", "(a.A) null", "(this)"}) {
            for (String s : new String[] {"let a.A p = #;", "o = #;", "let z.Any p = #;", "let b.F p = #;", "let b.P p = #;", "j(#);", "new a.A(1, #);", "o = (a.A) #;", "out (#) ask a.A;", "out (#) ask b.F;"}) {
                holds(0, text(s.replace("#", r)));
            }
            holds(r.equals("null") ? 0 : 13, text("throw @" + r + ";"));
            holds(r.equals("null") ? 0 : 13, text("let z.Ill p = @" + r + ";"));
        }
        holds(0, text("throw new z.Ill();"));
        holds(0, text("throw (z.Ill) new z.Any();"));
        holds(13, text("throw @new z.Any();"));
        holds(13, text("throw @(z.Any) new z.Ill();"));
        holds(13, text("out @null.x;"));
        holds(13, text("out @(null).x;"));
        holds(0, text("out ((a.A) null).x;"));
    }
}
