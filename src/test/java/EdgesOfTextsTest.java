import java.util.regex.Matcher;
import java.util.regex.Pattern;

/** Part 1 of the document: each sentence that names a bound, at the bound and behind it. */
public final class EdgesOfTextsTest {
    private static final String BASE = "open class b.P { open new(int p) { } open int m() { return 1; } } open face b.F { }";

    public static void main(String[] args) {
        tapeOf4000Bytes();
        tokensAsLongAsCanBe();
        blanks();
        classNames();
        oneLetterInFront();
        names();
        words();
        numbers();
        ofOneTokenTheLeast();
        theEnd();
        theEndBehindACut();
        tokens701();
        eachAsThe701st();
        classes13();
        members21();
        faces5();
        withs9();
        onlys9();
        params5();
        nestedStatements();
        nestedExpressions();
        nestedSupers();
        nestedRounds();
        nestedEverywhere();
        headsNeedNames();
        notNested();
        nearestIf();
        leftFirst();
        casts();
        Check.end("EdgesOfTextsTest");
    }

    private static void fault(int fault, String text) {
        Check.fault(BASE, fault, text);
    }

    private static Check fine(String text) {
        return Check.fine(BASE, text);
    }

    private static void inMethod(int fault, String statements) {
        fault(fault, "class a.A { int x; void n() { " + statements + " } int i() { return 1; } }");
    }

    private static void fineIn(String statements) {
        fine("class a.A { int x; void n() { " + statements + " } int i() { return 1; } }");
    }

    /** What c.M.m tells by out. */
    private static void outs(String text, String due) {
        Check c = new Check();
        c.stand(0, text);
        Check.due("run of " + text, c.run("c.M.m"), 1);
        Check.due(text, c.numbers(), due);
    }

    /** THE TAPE has up to 4000 bytes. */
    private static void tapeOf4000Bytes() {
        String blanks = Check.times(" ", 3987);
        Check c = new Check();
        Check.due("a text of 4000 bytes", c.make(0, "class a.A { }" + blanks), 0);
        Check.due("its text", c.x.text(0, 0), 4000);
        Check.due("THE TAPE has them", c.x.told(6), 4000);
        Check.due("there is no room", c.x.feed(0, 0, 0, 0, 0), LinkHouse.FULL);
        Check.due("made once more", c.x.make(1), 0);
        Check.due("its text", c.x.text(1, 0), 4000);
        Check.due("spliced", c.x.splice(13, 3980, 7), 20);
        Check.due("the class is in front still", c.x.make(2), 0);
        fault(1, blanks + "            @$");
        fault(2, "class        " + blanks + "@");
        fine(blanks + "class a.A { }");
        fine(Check.times(" ", 4000));
    }

    private static void tokensAsLongAsCanBe() {
        fine("class a.A{int x=1==1;int y=1<1;a.A z;}");
        fault(2, "class a.A{int x=1@= =1;}");
        fault(2, "class a.A{int x=1==@=1;}");
        fault(2, "class a.A{int x@===1;}");
        fault(2, "class a.A{int x=1<@=1;}");
        fault(2, "@classa.A{}");
        fault(2, "class a.A{@intx;}");
        fault(2, "class a.A{int @1x;}");
        fine("class a.A{int x1;}");
        fine("class a.A{int intx;int openx;int iff;int thi;int superb;int asks;}");
        fault(2, "class a.A{void f(){returnx @1;}}");
        fault(2, "class a.A @isa.B{}");
        fine("class a.A{int f(int p){if(p)return 1;else return(p);}}");
        fault(11, "class a.A{int f(int p){@return1;}}");
        fault(2, "class a.A{int x=12 @3;}");
        fault(2, "class a.A{int x=12@a.A.y;}");
    }

    /** Blanks (10, 32) between where needed; other bytes below 33 are none. */
    private static void blanks() {
        fine("class\na.A\n{\nint\nx\n;\n}\n");
        fine("  class  \n\n a.A {  }");
        for (int b = 0; b < 256; b++) {
            boolean blank = b == 10 || b == 32;
            boolean sign = "{}(),;.=<+-*".indexOf(b) >= 0;
            boolean letter = b >= 'a' && b <= 'z' || b >= '0' && b <= '9';
            if (blank) {
                fine("class a.A { }" + (char) b);
            } else {
                fault(sign || letter ? 2 : 1, "class a.A { }@" + (char) b);
            }
        }
        fault(1, "class a.A { int@\tx; }");
        fault(1, "class a.A { int@\rx; }");
    }

    /** A small letter, '.', a great letter, then letters and digits, 11 bytes at most. */
    private static void classNames() {
        Check c = fine("class a.A { } class b.Zz9zZ0aAa { } class q.Q1 { } class y.Z { }");
        Check.due("head", c.head(1, 0, 1), "class b.Zz9zZ0aAa");
        fault(1, "class @b.Zz9zZ0aAaa { }");
        fault(1, "class a.A is @b.Pppppppppp { }");
        fault(1, "class a.A { int x = @b.Pppppppppp.y; }");
        fault(1, "class a.A { @b.Pppppppppp x; }");
        fault(1, "class @A.A { }");
        fault(1, "class @A { }");
        fault(2, "class @a.a { }");
        fault(2, "class @a.1 { }");
        fault(2, "class @1.A { }");
        fault(1, "class a.A@_ { }");
        fault(2, "class a.A@.b { }");
        fault(2, "class a.A@.B { }");
        fault(4, "class a.AB { } class a.Ab { } class @a.AB { }");
    }

    /** One letter in front of '.' and a great letter is no NAME. */
    private static void oneLetterInFront() {
        fault(1, "class a.A { a.A xx; int y = xx.@Y; }");
        fault(2, "class a.A { a.A x; int y = x.Y@; }");
        fine("class a.A { a.A x; int y = x.y; }");
        fault(1, "class a.A { a.A x; int y = x .@Y; }");
        fault(1, "class a.A { a.A x; int y = x. @Y; }");
        fault(1, "class a.A { a.A x1; int y = x1.@Y; }");
        fault(2, "class a.A { a.A x; a.A y = x.@y.A; }");
        fine("class a.A { a.A x; a.A y = x.y .x; }");
        fault(2, "class a.A { int @x.X; }");
    }

    /** A small letter, then letters and digits, 10 at most. */
    private static void names() {
        Check c = fine("class a.A { int q; int aZ9bcdefgh; void zzzzzzzzzz(int abcdefghij) { } }");
        Check.due("member", c.member(1, 0, 0, 1), "int aZ9bcdefgh");
        Check.due("member", c.member(1, 0, 0, 2), "void zzzzzzzzzz(int)");
        fault(1, "class a.A { int @aZ9bcdefghi; }");
        fault(1, "class a.A { void f(int @abcdefghijk) { } }");
        fault(1, "class a.A { void f() { let int @abcdefghijk = 1; } }");
        fault(1, "class a.A { int x = @abcdefghijk; }");
        fault(1, "class a.A { a.A x; int y = x.@abcdefghijk; }");
        fault(1, "class a.A { int @_x; }");
        fault(1, "class a.A { int x@_; }");
        fault(1, "class a.A { int @Xx; }");
    }

    /** WORDS are NAMES that are none: none of them can be a field's, in any place a word of another sort stands. */
    private static void words() {
        String all = "class face as is in with only open kin own final bare static start void new int let if else while return throw try catch out null this super ask";
        for (String word : all.split(" ")) {
            fault(2, "class a.A { int @" + word + "; }");
            fault(2, "class a.A { a.A y; int x = y.@" + word + "; }");
            fine("class a.A { int " + word + "s; int x" + word + "; int " + word + "1; int " + word.substring(0, word.length() - 1) + "X; }");
        }
        fine("class a.A { int z; int any; int ill; int code; int package; int for; int true; int main; }");
    }

    /** NUMBERS: 1 to 9 digits. */
    private static void numbers() {
        Check c = fine("class a.A { static final int x = 0; static final int y = 999999999; static final int z = 000000000; static final int w = 000000012; }");
        Check.due("members", c.members(1, 0, 0), "static final int x=0; static final int y=999999999; static final int z=0; static final int w=12; new()");
        fault(1, "class a.A { int x = @1000000000; }");
        fault(1, "class a.A { int x = @0000000000; }");
        fault(1, "class a.A { int x = 1 + @9999999999999999999999; }");
        fault(2, "class a.A { int x = 999999999 @9; }");
    }

    /** Of one token the least: 1 ahead of 2 ahead of 3. */
    private static void ofOneTokenTheLeast() {
        fault(1, "@abcdefghijk");
        fault(1, "@1234567890 { }");
        fault(1, "class @abcdefghijk { }");
        fault(1, "class @1234567890 { }");
        fault(1, "class a.A @b.Bcccccccccc { }");
        String twenty = "class a.A { " + Check.times("start { } ", 20);
        fault(1, twenty + "@a.Abcdefghij x; }");
        fault(2, twenty + "@x; }");
        fault(3, twenty + "@a.A x; }");
        String twelve = "";
        for (int i = 0; i < 12; i++) {
            twelve += "class a.A" + i + " { } ";
        }
        fault(1, twelve + "class @a.Abcdefghij { }");
        fault(2, twelve + "class @abc { }");
        fault(3, twelve + "class @a.A0 { }");
        fault(1, "class a.A as b.F, b.F, b.F, b.F, @b.Ffffffffff { }");
        fault(2, "class a.A as b.F, b.F, b.F, b.F, @x { }");
        fault(3, "class a.A as b.F, b.F, b.F, b.F, @b.F { }");
        fault(1, "class a.A { void f(int a, int b, int c, int d, @b.Ffffffffff e) { } }");
        fault(2, "class a.A { void f(int a, int b, int c, int d, @) { } }");
        fault(3, "class a.A { void f(int a, int b, int c, int d, @a.X e) { } }");
        inMethod(1, Check.times("{ ", 11) + "@abcdefghijk = 1; " + Check.times("} ", 11));
        inMethod(2, Check.times("{ ", 11) + "@else " + Check.times("} ", 11));
        inMethod(3, Check.times("{ ", 11) + "@x; " + Check.times("} ", 11));
        // What is told first is met first, whatever comes behind.
        fault(2, "class a.A { @; } class $ { }");
        fault(1, "class a.A { } @# class class");
        fault(3, "class a.A { void f(int a, int b, int c, int d, @int e) { } $ }");
    }

    /** 2 a token that can't stand there (the end: how many bytes there are). */
    private static void theEnd() {
        fine("");
        fine(" ");
        // What the last byte is of.
        for (String part : new String[] {"class a.A{int x=1==", "class a.A{int x=1<", "class a.A{int x=", "class a.A{int x=1", "class a.A{int x=12", "class a.A{int x", "class a.A{int xy", "class a.A", "class a.Ab", "class", "class a.A{int x=y.z", "class a.A{int x=b.P", "class a.A{int x=a."}) {
            fault(2, part + "@");
        }
        fault(2, "class a.A{int x=1==@=");
        fault(2, "class @a");
        fault(2, "class @a.");

        String whole = "open class a.A is b.P as b.F only a.A { own a.A f(int p) { if (p) return this; else { let int q = p; } try { throw null; } catch (z.Ill e) { out super.m(); } return null; } new() { super(1); } start { } }";
        for (int n = 1; n < whole.length(); n++) {
            String part = whole.substring(0, n);
            boolean between = !Character.isLetterOrDigit(whole.charAt(n)) || !Character.isLetterOrDigit(whole.charAt(n - 1));
            if (between && whole.charAt(n) != '.' && whole.charAt(n - 1) != '.') {
                fault(2, part + "@");
                fault(2, part + "   \n@");
            }
        }
        fine(whole);
    }

    /** What was cut from THE TAPE is no more of the text, nor of a run's C.NAME, though it would go on with its last token. */
    private static void theEndBehindACut() {
        String[] wholes = {
            "open class a.Abc is b.P as b.F only a.Abc { static int f(int p12) { return (p12 == 1234) + 56 < 7; } own new() { super(1); } start { a.Abc.f(null ask b.P); } }",
            "class abc.d abcdefghijk", "class a.A { int x=1==2; } a.Bcdefghijkl", "class a.A { int x = 1234567890; }",
        };
        for (String whole : wholes) {
            for (int n = 0; n < whole.length(); n++) {
                Check cut = new Check();
                cut.stand(0, BASE);
                cut.tape(whole);
                Check.due("left of " + whole, cut.x.cut(whole.length() - n), n);
                Check fed = new Check();
                fed.stand(0, BASE);
                Check.due(n + " bytes of " + whole, cut.x.make(1), fed.make(1, whole.substring(0, n)));
                Check.due("place in " + n + " bytes of " + whole, cut.x.place(), fed.x.place());
            }
        }
        Check c = new Check();
        c.stand(0, "class c.M { static void mm() { out 2; } static void m() { out 1; } } class c.Mm { static void m() { out 3; } }");
        String[][] calls = {{"c.M.mm", "0", "2"}, {"c.M.mm", "1", "1"}, {"c.M.mm", "2", ""}, {"c.M.mm", "3", ""}, {"c.M.m()", "2", "1"}, {"c.Mm.m", "0", "3"}, {"c.Mm.m2", "1", "3"}, {"c.Mm.m c.M.m", "6", "3"}, {"c.Mm.m ", "1", "3"}, {"c.Mm.m ", "0", ""}};
        for (String[] call : calls) {
            c.tape(call[0]);
            c.x.cut(Integer.parseInt(call[1]));
            Check.due(call[0] + " but " + call[1], c.x.run(), call[2].isEmpty() ? LinkHouse.NONE : 1);
            if (!call[2].isEmpty()) {
                Check.due(call[0] + " but " + call[1], c.numbers(), call[2]);
            }
        }
    }

    /** 3 a token that is too much: the 701st. */
    private static void tokens701() {
        String base = "class a.A{void f(){" + Check.times("out 1;", 229);
        // 8 tokens and 687 of these: 695.
        fine(base + "}}");
        fault(2, base + "@");
        Check c = new Check();
        String full = base + "{}{}{";
        c.stand(0, BASE);
        Check.due("700 tokens and the end", c.make(1, full), -12);
        Check.due("the end", c.x.place(), full.length());
        fault(3, full + "@}}}");
        fault(3, full + "@out 1;}}}");
        fault(2, full + "@)");
        fault(2, full + "@else");
        fault(1, full + "@abcdefghijk");
        fault(1, full + "@$");
        String most = "class a.A{void f(){" + Check.times("out 1;", 230) + "}}";
        fine(most);
        fault(3, most + " @class");
        fault(3, most + " @class a.A{}");
        fault(3, most + " @open");
        fault(2, most + " @}");
        fault(1, most + "@%");
    }

    /** Whatever token of a text the 701st is: it is too much, and 1 ahead of that. */
    private static void eachAsThe701st() {
        String[] texts = {
            "open final class a.A is b.P as b.F, b.G in a.H with a.B, a.D only a.X, a.Y { open static final int x = 1; own a.A y; kin bare b.P m(int p, a.A q); }",
            "face a.F as b.F { void f() { } bare a.A g(b.P p); int x = 1 + 2 - 3 * 4 == 5; int y = 6 < 7; new(int p, int q) { super(p, 1); } own new() { } start { x = 1; } }",
            "class a.A { void f() { let int q = p; if (x) y; else z; while (1) { } return; return q; throw n; try { } catch (z.Ill e) { } out 1; x.y = z; super(); { } } }",
            "class a.A { int x = (1 + (2)); int y = null.f(this, 1).g ask b.P; int z = f(1, 2) + new b.P(1) + (b.P) w.v; int v = b.P.n + b.P.m(1) + b.F.super.m(2) + super.m(3) + (b.P.n); }",
        };
        for (String text : texts) {
            Matcher m = Pattern.compile("[a-z]\\.[A-Z]\\w*|\\w+|==|\\S").matcher(text);
            for (int n = 0; m.find(); n++) {
                String ahead = padding(700 - n) + text.substring(0, m.start());
                fault(3, ahead + "@" + text.substring(m.start()));
                fault(1, ahead + "@#" + text.substring(m.start()));
                fault(1, padding(699 - n) + text.substring(0, m.end()) + "@#");
            }
        }
    }

    /** A class of that many tokens. */
    private static String padding(int tokens) {
        int left = tokens - 10;
        return "class a.Q{void f(){" + (left % 2 == 0 ? Check.times("{}", left / 2) : "out 1;" + Check.times("{}", (left - 3) / 2)) + "}}";
    }

    /** The NAME of a 13th class. */
    private static void classes13() {
        StringBuilder twelve = new StringBuilder();
        for (int i = 0; i < 12; i++) {
            twelve.append(i % 2 == 0 ? "class" : "open face").append(" a.A").append(i).append("{}");
        }
        Check c = fine(twelve.toString());
        Check.due("classes", c.x.classes(1, 0), 12);
        Check.due("the twelfth", c.head(1, 0, 11), "open face a.A11");
        fault(3, twelve + "class @a.B{}");
        fault(3, twelve + "open face @a.B{}");
        fault(3, twelve + "open bare class @a.A0{}");
        fault(2, twelve + "open bare @face a.B{}");
        fault(2, twelve + "class@");
    }

    /** Of a class the first token of a 21st MEMBER. */
    private static void members21() {
        String twenty = "class a.A { int x; new() { } void f() { } " + Check.times("start { } ", 16) + "int y = 1; ";
        Check c = fine(twenty + "} class a.B { int x; }");
        Check.due("members", c.x.members(1, 0, 0), 4);
        for (String more : new String[] {"int z;", "void g() { }", "new(int p) { }", "start { }", "open int z;", "static int z;", "final int z;", "bare int z();", "a.A z;", "own new(int p) { }"}) {
            fault(3, twenty + "@" + more + " }");
        }
        fault(2, twenty + "@x; }");
        fault(2, twenty + "@{ }");
        StringBuilder fields = new StringBuilder("face a.F { ");
        for (int i = 0; i < 20; i++) {
            fields.append("int f").append(i).append(" = ").append(i).append("; ");
        }
        Check.due("of a face", fine(fields + "}").x.members(1, 0, 0), 20);
        fault(3, fields + "@int g(); }");
    }

    /** Of a class the C of a fifth face. */
    private static void faces5() {
        String faces = "face a.F1 { } face a.F2 { } face a.F3 { } face a.F4 { } face a.F5 { } ";
        Check c = fine(faces + "class a.A as a.F1, a.F2, a.F3, a.F4 { } face a.G as a.F5, a.F4, a.F3, a.F2 { }");
        Check.due("head", c.head(1, 0, 5), "class a.A as a.F1,a.F2,a.F3,a.F4");
        Check.due("head", c.head(1, 0, 6), "face a.G as a.F5,a.F4,a.F3,a.F2");
        fault(3, faces + "class a.A as a.F1, a.F2, a.F3, a.F4, @a.F5 { }");
        fault(3, faces + "face a.G as a.F1, a.F2, a.F3, a.F4, @a.F5 { }");
        fault(3, faces + "face a.G as a.F1, a.F1, a.F1, a.F1, @a.F1 { }");
        fault(5, faces + "face a.G as a.F1, a.F2, a.F3, @a.F1 { }");
    }

    /** The C of a ninth of 'with'. */
    private static void withs9() {
        String in = "";
        String list = "";
        for (int i = 1; i <= 8; i++) {
            in += "class a.N" + i + " in a.A { } ";
            list += (i == 1 ? "a.N" : ", a.N") + i;
        }
        Check c = fine("class a.A with " + list + " { } " + in);
        Check.due("head", c.head(1, 0, 0), "class a.A with " + list.replace(", ", ","));
        fault(3, "class a.A with " + list + ", @a.N9 { } " + in);
        fault(3, "face a.A with " + list + ", @a.N1 { } " + in);
        fault(2, "class a.A with " + list + ",@{ } " + in);
        fault(5, "class a.A with @a.N1, a.N9 { }");
    }

    /** The C of a ninth of 'only'. */
    private static void onlys9() {
        String list = "a.A, a.B, a.A, a.B, a.A, a.B, a.A, a.B";
        Check c = fine("class a.A only " + list + " { } class a.B { }");
        Check.due("head", c.head(1, 0, 0), "class a.A only " + list.replace(", ", ","));
        fault(3, "class a.A only " + list + ", @a.A { } class a.B { }");
        fault(3, "face a.A only " + list + ", @a.B { } class a.B { }");
        Check.due("both lists", fine("class a.A with a.B, a.B, a.B, a.B, a.B, a.B, a.B, a.B only " + list + " { } class a.B in a.A { }").x.classes(1, 0), 2);
    }

    /** The T of a fifth param. */
    private static void params5() {
        Check c = fine("class a.A { new(int p, a.A q, int r, a.A s) { } void f(a.A p, a.A q, a.A r, int s) { f(p, q, r, s); new a.A(s, p, s, p); } }");
        Check.due("members", c.members(1, 0, 0), "new(int,a.A,int,a.A); void f(a.A,a.A,a.A,int)");
        fault(3, "class a.A { void f(int p, int q, int r, int s, @int t) { } }");
        fault(3, "class a.A { void f(int p, int q, int r, int s, @a.A t) { } }");
        fault(3, "class a.A { new(int p, int q, int r, int s, @a.A t) { } }");
        fault(2, "class a.A { void f(int p, int q, int r, int s,@) { } }");
        // ARGS have no such bound.
        fault(12, "class a.A { void f(int p, int q, int r, int s) { @f(1, 2, 3, 4, 5, 6, 7); } }");
        fault(18, "class a.A { void f() { new @a.A(1, 2, 3, 4, 5, 6, 7); } }");
    }

    private static String opened(int n, String inside) {
        return Check.times("{ ", n) + inside + Check.times("} ", n);
    }

    /** The first token of an S that is within 12 S's and E's; a MEMBER's BLOCK is the first. */
    private static void nestedStatements() {
        String[] all = {"{ }", "let int v = 1;", "if (1) { }", "while (0) { }", "return ;", "throw null;", "try { } catch (z.Ill q) { }", "out 1;", "i();", "x = 1;", "new a.A();"};
        for (String s : all) {
            inMethod(3, opened(11, "@" + s + " "));
        }
        fineIn(opened(11, ""));
        fineIn(opened(10, "{ } "));
        fineIn(opened(10, "return ; "));
        for (String s : new String[] {"let int v = 1;", "if (1) { }", "throw null;", "out 1;", "i();", "x = 1;"}) {
            fineIn(opened(9, s + " "));
        }
        inMethod(3, opened(10, "if (@1) { } "));
        inMethod(3, opened(10, "while (@0) { } "));
        inMethod(3, opened(10, "throw @null; "));
        inMethod(3, opened(10, "let int v = @1; "));
        inMethod(3, opened(10, "@x = 1; "));
        inMethod(3, opened(10, "return @1; "));
        // if, else, while: what they hold is within one more.
        fineIn(opened(9, "if (1) return ; else return ; "));
        inMethod(3, opened(9, "if (1) return @1; "));
        fineIn(opened(9, "while (0) return ; "));
        inMethod(3, opened(9, "if (1) { } else { @{ } } "));
        inMethod(3, opened(9, "if (1) out @1; "));
        fineIn(Check.times("if (1) ", 10) + "return ;");
        inMethod(3, Check.times("if (1) ", 10) + "out @1;");
        inMethod(3, Check.times("if (1) ", 10) + "if (@1) return ;");
        // An else's S is within its if, as the other is.
        fineIn("if (1) return ; else " + Check.times("if (1) return ; else ", 9) + "return ;");
        inMethod(3, "if (1) return ; else " + Check.times("if (1) return ; else ", 9) + "if (@1) return ;");
        // try's and catch's BLOCKS are S's within it.
        fineIn(opened(9, "try { } catch (z.Ill q) { } "));
        inMethod(3, opened(9, "try { @{ } } catch (z.Ill q) { } "));
        inMethod(3, opened(9, "try { } catch (z.Ill q) { @{ } } "));
        inMethod(3, opened(10, "try @{ } catch (z.Ill q) { } "));
        // Of starts and makers, too.
        fine("class a.A { start { " + opened(11, "") + "} new() { " + opened(11, "") + "} }");
        fault(3, "class a.A { start { " + opened(11, "@{ } ") + "} }");
        fault(3, "class a.A { new() { " + opened(11, "@{ } ") + "} }");
        fault(3, "face a.A { int f() { " + opened(11, "@{ } ") + "} }");
    }

    private static String rounded(int n, String inside) {
        return Check.times("(", n) + inside + Check.times(")", n);
    }

    /** The first token of an E that is within 12 S's and E's; a field's E is within none. */
    private static void nestedExpressions() {
        fine("class a.A { int x = " + rounded(11, "1") + "; }");
        fault(3, "class a.A { int x = " + rounded(12, "@1") + "; }");
        fault(3, "class a.A { static int x = " + rounded(12, "@null") + "; }");
        fault(3, "class a.A { int x = " + rounded(12, "@new a.A()") + "; }");
        fault(3, "class a.A { int x = " + rounded(12, "@(1)") + "; }");
        fault(2, "class a.A { int x = " + rounded(12, "@)") + "; }");
        fineIn("out " + rounded(9, "1") + ";");
        inMethod(3, "out " + rounded(10, "@1") + ";");
        inMethod(19, "@" + rounded(9, "1") + ";");
        inMethod(3, rounded(10, "@1") + ";");
        inMethod(3, "x = " + rounded(10, "@1") + ";");
        fineIn("x = " + rounded(9, "1") + ";");
        fineIn("let int v = " + rounded(9, "1") + "; if (" + rounded(9, "1") + ") { } while (" + rounded(9, "0") + ") { } throw " + rounded(9, "null") + ";");
        inMethod(3, "let int v = " + rounded(10, "@1") + ";");
        inMethod(3, "if (" + rounded(10, "@1") + ") { }");
        inMethod(3, "while (" + rounded(10, "@1") + ") { }");
        inMethod(3, "throw " + rounded(10, "@null") + ";");
        inMethod(3, "return " + rounded(10, "@1") + ";");
        argsNest("f(");
        argsNest("this.f(");
        argsNest("a.A.g(");
        argsNest("b.P.super.f(");
        argsNest("super.f(");
        argsNest("new a.A(");
        castsNest();
    }

    /** Each of ARGS is an E, of whatever calls. */
    private static void argsNest(String call) {
        String text = "class a.A { int f(int p) { return 1; } static int g(int p) { return 1; } int x = ";
        fault(3, text + Check.times(call, 12) + "@1" + Check.times(")", 12) + "; }");
        fault(3, text + Check.times(call, 11) + "1, " + call + "@1" + Check.times(")", 12) + "; }");
        fault(3, text + call + "1, 2, 3, " + Check.times(call, 11) + "@1" + Check.times(")", 12) + "; }");
        if (call.startsWith("f") || call.startsWith("this") || call.startsWith("a.A")) {
            fine(text + Check.times(call, 11) + "1" + Check.times(")", 11) + "; }");
        }
    }

    /** A CAST's UNIT is an E. */
    private static void castsNest() {
        fine("class a.A { a.A x = " + Check.times("(a.A)", 11) + "null; }");
        fault(3, "class a.A { a.A x = " + Check.times("(a.A)", 12) + "@null; }");
        fault(3, "class a.A { a.A x = " + Check.times("(a.A)", 12) + "@(null); }");
        fault(3, "class a.A { a.A x = " + Check.times("(a.A)", 12) + "@(a.A)null; }");
        fault(3, "class a.A { a.A x = " + Check.times("(a.A)", 11) + "(@null); }");
        fineIn("let a.A v = " + Check.times("(a.A)", 9) + "this;");
        inMethod(3, "let a.A v = " + Check.times("(a.A)", 10) + "@this;");
    }

    /** Super that no ( follows begins an E; with it, it is the S's. */
    private static void nestedSupers() {
        String[] in = {"class a.A is b.P { int f() { ", "class a.A is z.Ill { new() { "};
        for (String text : in) {
            fault(3, text + opened(10, "@super.m(); ") + "} }");
            fault(3, text + opened(10, "out @super.m(); ") + "} }");
            fault(18, text + opened(10, "@super(); ") + "} }");
            fault(3, text + opened(10, "super(@1); ") + "} }");
            fault(3, text + opened(11, "@super(); ") + "} }");
            fault(3, text + opened(11, "@super.m(); ") + "} }");
            fault(2, text + opened(10, "super(@; ") + "} }");
            fault(2, text + opened(10, "super()@. ") + "} }");
        }
        fault(18, "class a.A is b.P { int f() { " + opened(9, "super.m(); @super(1); ") + "} }");
        fault(2, "class a.A is b.P { int f() { super@; } }");
        fault(2, "class a.A is b.P { int f() { super @} }");
        fault(2, "class a.A is b.P { int f() { super.@1; } }");
        fault(3, "class a.A is b.P { int f() { " + opened(10, "@super; ") + "} }");
        fault(3, "class a.A is b.P { int f() { " + opened(10, "@super $ ") + "} }");
        fault(3, "class a.A is b.P { int f() { " + opened(10, "@super"));
    }

    /** A C behind ( that no ) follows begins an E; with it, it is a CAST's. */
    private static void nestedRounds() {
        inMethod(3, opened(9, "out (@b.P.x); "));
        inMethod(3, opened(9, "out (@b.P + 1); "));
        inMethod(3, opened(9, "out (@b.P; "));
        inMethod(3, opened(9, "out (@b.P $ "));
        inMethod(3, opened(9, "out (@b.P (1)); "));
        inMethod(3, opened(9, "out (b.P) @x; "));
        inMethod(3, opened(9, "out (b.P) @(x); "));
        inMethod(3, opened(9, "out (b.P) @b.P.x; "));
        inMethod(3, opened(9, "out (b.P) @(b.P) x; "));
        inMethod(2, opened(9, "out (b.P) @; "));
        inMethod(2, opened(9, "out (b.P) @+ 1; "));
        inMethod(2, opened(9, "out (b.P)@"));
        inMethod(2, opened(9, "out (@;"));
        inMethod(3, opened(10, "@(b.P) this; "));
    }

    /** ( ) and ARGS are E's wherever they stand: right of each sign, in each of ARGS, behind '.', in front of ask. */
    private static void nestedEverywhere() {
        String[] in = {"1 < %", "1 == %", "1 + %", "1 - %", "1 * %", "% < 1", "% + 1", "% * 1", "2 < 1 * %", "1 + 2 * %", "1 == 2 - %", "2 * 3 * %", "1 + 2 + %", "% ask a.A", "% == null ask a.A"};
        for (String e : in) {
            fault(3, "class a.A { int x = " + e.replace("%", rounded(12, "@1")) + "; }");
            inMethod(3, "out " + e.replace("%", rounded(10, "@1")) + ";");
            if (!e.contains("ask")) {
                fine("class a.A { int x = " + e.replace("%", rounded(11, "1")) + "; }");
                fineIn("out " + e.replace("%", rounded(9, "1")) + ";");
            }
        }
        String[] calls = {"this.f(%)", "this.x.f(%)", "f(1, %)", "f(1, 2, 3, %)", "1 + f(%)", "new a.A(%)", "(a.A) new a.A(%)", "a.A.g(%)", "super.f(%)", "b.F.super.f(%)"};
        for (String e : calls) {
            int n = e.startsWith("(") ? 10 : 11;
            fault(3, "class a.A { int x = " + e.replace("%", rounded(n, "@1")) + "; }");
            inMethod(3, "out " + e.replace("%", rounded(n - 2, "@1")) + ";");
        }
    }

    /** Behind is, as, in, with, only, and each ',', there stands a C. */
    private static void headsNeedNames() {
        for (String word : new String[] {"is", "as", "in", "with", "only"}) {
            for (String none : new String[] {"{", "x", "int", "1", ",", "class"}) {
                fault(2, "class a.A " + word + " @" + none + " { }");
            }
            fault(1, "class a.A " + word + " @$ { }");
            fault(2, "class a.A " + word + "@");
            fault(2, "class a.A " + word + " b.F @b.F { }");
            if (word.equals("is") || word.equals("in")) {
                fault(2, "class a.A " + word + " b.F@, b.F { }");
            } else {
                fault(2, "class a.A " + word + " b.F, @x { }");
                fault(2, "class a.A " + word + " b.F, @{ }");
                fault(2, "class a.A " + word + " b.F,@");
            }
        }
        fault(2, "class a.A { } @is");
        fault(2, "class @is a.A { }");
        fault(2, "open@");
        fault(2, "open final@");
        fault(2, "final @open class a.A { }");
        fault(2, "class a.A only a.A @with a.A { }");
        fault(2, "class a.A with a.A @in a.A { }");
        fault(2, "class a.A in a.A @as a.A { }");
        fault(2, "class a.A as a.A @is a.A { }");
    }

    /** What stands beside is not within: sums, products, comparisons, '.', ask, ARGS one beside the other. */
    private static void notNested() {
        fine("class a.A { int x = " + Check.times("1 + ", 100) + Check.times("2 * ", 100) + "3 - 4 < 5; }");
        fine("class a.A { a.A y; int x = " + rounded(11, "1 + 2 * 3 < 4 - 5") + " == 1; }");
        fine("class a.A { a.A y; a.A z = y" + Check.times(".y", 300) + "; }");
        fine("class a.A { a.A y() { return this" + Check.times(".y()", 150) + "; } }");
        fine("class a.A { int f(int p, int q, int r, int s) { return " + Check.times("f(1, 2, 3, 4) + ", 30) + "f(f(1, 2, 3, 4), 5, 6, f(7, 8, 9, 10)); } }");
        fineIn(Check.times("{ } ", 100) + Check.times("if (1) { } else { } ", 40));
        fine("class a.A { a.A y; int x = y" + Check.times(".y", 20) + " ask a.A; }");
    }

    /** An else is of the nearest if. */
    private static void nearestIf() {
        outs("class c.M { static void m() { if (0) if (1) out 1; else out 2; out 3; if (1) if (0) out 4; else out 5; if (0) { if (1) out 6; } else out 7; "
            + "if (1) while (0) if (1) out 8; else out 9; if (0) out 10; else if (0) out 11; else out 12; } }", "3 5 7 12");
        fault(2, "class a.A { void f() { if (1) out 1; out 2; @else out 3; } }");
        fault(2, "class a.A { void f() { if (1) out 1; else out 2; @else out 3; } }");
        fine("class a.A { void f() { if (1) if (0) out 1; else out 2; else out 3; } }");
        fault(2, "class a.A { void f() { if (1) if (0) out 1; else out 2; else out 3; @else out 4; } }");
    }

    /** Of equal strength the left one is done first. */
    private static void leftFirst() {
        outs("class c.M { static int t(int p) { out p; return p; } static void m() { out t(1) - t(2) - t(3); out t(4) - t(5) + t(6); out t(2) * t(3) * t(4); out t(9) - t(2) * t(3) - t(1); out t(1) < t(2) - t(3); } }",
            "1 2 3 -4 4 5 6 5 2 3 4 24 9 2 3 1 2 1 2 3 0");
        fault(2, "class a.A { int x = 1 < 2 @< 3; }");
        fault(2, "class a.A { int x = 1 == 2 @== 3; }");
        fault(2, "class a.A { int x = 1 < 2 @== 3; }");
        fault(2, "class a.A { int x = 1 == 2 @< 3; }");
        fine("class a.A { int x = (1 < 2) < 3; int y = 1 == (2 == 3); int z = (1 == 2) == (3 < 4); }");
    }

    /** '( ' C ')' is a CAST when that ) is behind C; a CAST is of all of the UNIT behind it, with each '.' and ask behind that. */
    private static void casts() {
        fine("class a.A { z.Any y; a.A x = (a.A) this.y; a.A w = ((a.A) this).x; int v = ((a.A) y) ask a.A; a.A u = (a.A) (y); a.A t = (a.A) (a.A) y; }");
        fault(13, "class a.A { z.Any y; int v = (a.A) @y ask a.A; }");
        fault(13, "class a.A { int y; a.A v = (a.A) @this.y; }");
        fault(11, "class a.A { z.Any y; a.A x; a.A v = (a.A) y.@x; }");
        fine("class a.A { z.Any y; a.A x; a.A v = ((a.A) y).x; }");
        fault(2, "class a.A { a.A v = (a.A) @- 1; }");
        fault(2, "class a.A { a.A v = (a.A)@; }");
        fault(2, "class a.A { static int s; int v = (a.A.s@; }");
        fine("class a.A { static int s; int v = (a.A.s) + (a.A.s); }");
        // A CAST is no sum: it is of the UNIT alone.
        fault(13, "class a.A { a.A y; int v = @(a.A) y + 1; }");
        fine("class a.A { a.A y; int v = (a.A) y == y; }");
        fine("class a.A { int y; int v = (y) + (y) * (1); }");
        outs("class c.P { c.P n; } class c.M is c.P { static void m() { let c.M a1 = new c.M(); a1.n = new c.P(); let c.P v = a1; out ((c.M) v).n == a1.n; out (c.M) v == a1; out (c.P) a1.n == a1.n; } }", "1 1 1");
    }
}
