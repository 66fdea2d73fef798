/** Part 5 of the document, and promises 30 to 40: START, values, OBJECTS, STEPS, depth, null, at the bounds. */
public final class EdgesOfMachineTest {
    public static void main(String[] args) {
        wrapping();
        oneAndNull();
        numbersFromOne();
        objects200();
        fields2000();
        roomIsAsked();
        outs100();
        steps20000();
        stepsOfEach();
        stepsAheadOfDepth();
        calls24();
        makers24();
        startsAndCalls24();
        startsAlone24();
        startTooDeepIsNotFailed();
        depthComesLast();
        bridgesAreCalls();
        startedOnce();
        startFails();
        startThrows();
        startsOfFaces();
        constantsAhead();
        constantsAsFields();
        constantTheFirst();
        startsHaveLocals();
        triesEnd();
        facesNotStarted();
        fieldsAnew();
        staticsAtFirst();
        orderOfNew();
        orderOfGetAndPut();
        orderOfCalls();
        nullsAskNoUse();
        castsAndAsks();
        caught();
        faceCalls();
        selectedIsBare();
        whatStandsBelow();
        amongManyClasses();
        staleCopies();
        afterFailure();
        fresh();
        touched();
        runNames();
        valuesGiven();
        answersAheadOfAny();
        eventsAndStates();
        fieldsInOrder();
        calls512();
        Check.end("EdgesOfMachineTest");
    }

    private static Check with(String text) {
        Check c = new Check();
        c.stand(0, text);
        return c;
    }

    private static Check outs(String text, String due) {
        Check c = with(text);
        Check.due("run of " + text, c.run("c.M.m"), 1);
        Check.due(text, c.numbers(), due);
        return c;
    }

    private static Check fails(String text, int failure, String numbers) {
        Check c = with(text);
        Check.due("run of " + text, c.run("c.M.m"), -10 - failure);
        Check.due("numbers of " + text, c.numbers(), numbers);
        Check.due("value behind " + text, c.x.value(), 0);
        return c;
    }

    /** Ints of 32 bits, wrapping; < is of ints with a sign. */
    private static void wrapping() {
        outs("class c.M { static int top = 999999999 + 999999999 + 147483649; int f; static void m() { out top; out top + 1; out 0 - top - 1 - 1; out top * 2; out top * top; out (top + 1) * (top + 1); out (top + 1) * (0 - 1); "
            + "out top < top + 1; out top + 1 < top; out top + 1 == 0 - top - 1; out 0 - (top + 1); let c.M v = new c.M(); v.f = top; v.f = v.f + 1; out v.f; out 65536 * 65536; out 0 - 1 < 0; out 0 < 0; } }",
            "2147483647 -2147483648 2147483647 -2 1 0 -2147483648 0 1 1 -2147483648 -2147483648 0 1 0");
        Check c = with("class c.M { static int m() { let int i = 1; let int n = 0; while (n < 31) { i = i * 2; n = n + 1; } return i; } static int z() { return m() * 2; } }");
        Check.due("run", c.run("c.M.m"), 1);
        Check.due("value", c.x.value(), Integer.MIN_VALUE);
        Check.due("run", c.run("c.M.z"), 1);
        Check.due("value", c.x.value(), 0);
    }

    /** < and ==, ask give 1 or 0; if, while: not 0. */
    private static void oneAndNull() {
        outs("class c.M { static z.Any n; static void m() { out 1 < 2; out 2 < 1; out 2 == 2; out 2 == 3; out n == null; out null == null; out new c.M() == null; out n ask z.Any; out new c.M() ask z.Any; out new c.M() == new c.M(); let c.M v = new c.M(); out v == v; "
            + "if (2) out 7; else out 8; if (0 - 1) out 7; else out 8; if (0) out 7; else out 8; if (65536 * 65536) out 7; else out 8; let int i = 0 - 2; while (i) { out i; i = i + 1; } while (i) out 9; } }",
            "1 0 1 0 1 1 0 0 1 0 1 7 7 8 8 -2 -1");
    }

    /** OBJECTS, numbered from 1 as they are made. */
    private static void numbersFromOne() {
        Check c = with("class c.M { c.N v = new c.N(); static c.M m() { return new c.M(); } } class c.N { }");
        Check.due("run", c.run("c.M.m"), 1);
        Check.due("its number ahead of what its maker makes", c.x.value(), 1);
        Check.due("that is the next", c.x.fieldOf(1, 0), 2);
        Check.due("no OBJECT has number 0", c.x.classOf(0), LinkHouse.BAD);
        Check.due("run again", c.run("c.M.m"), 1);
        Check.due("they stay from run to run", c.x.value(), 3);
        Check.due("OBJECTS", c.x.told(2), 4);
        Check.due("the last", c.x.classOf(4), 3);
        Check.due("beyond the last", c.x.classOf(5), LinkHouse.BAD);
        Check.due("fresh", c.x.fresh(), 2);
        Check.due("none", c.x.classOf(1), LinkHouse.BAD);
        Check.due("run", c.run("c.M.m"), 1);
        Check.due("from 1 again", c.x.value(), 1);
    }

    /** 16 the 201st OBJECT. */
    private static void objects200() {
        String text = "class c.M { static void a1() { n(199); } static void b1() { n(1); } static void n(int k) { while (k) { new c.N(); k = k - 1; } } static void c1() { out 1; new c.N(c.N.t()); } static void d1() { new z.Any(); } static void e1() { try { new c.O(); } catch (z.Ill e) { out 3; } } } "
            + "class c.N { new() { } new(int p) { } static int t() { out 2; return 1; } } class c.O { start { out 4; } }";
        Check c = with(text);
        Check.due("199", c.run("c.M.a1"), 1);
        Check.due("the 200th", c.run("c.M.b1"), 1);
        Check.due("OBJECTS", c.x.told(2), 200);
        Check.due("the last", c.x.classOf(200), 3);
        Check.due("the 201st", c.run("c.M.b1"), -26);
        Check.due("OBJECTS", c.x.told(2), 200);
        Check.due("none", c.x.classOf(201), LinkHouse.BAD);
        Check.due("ahead of its ARGS", c.run("c.M.c1"), -26);
        Check.due("numbers", c.numbers(), "1");
        Check.due("a z.Any is one, too", c.run("c.M.d1"), -26);
        Check.due("its class is STARTED ahead", c.run("c.M.e1"), -26);
        Check.due("numbers", c.numbers(), "4");
        Check.due("fresh", c.x.fresh(), 3);
        Check.due("room again", c.run("c.M.b1"), 1);
        Check.due("OBJECTS", c.x.told(2), 1);
        // Whether anything holds them or not, over runs and within a run; what throws as it is made is one.
        Check d = with("class c.M { new() { throw new z.Ill(); } static void m() { while (1) try { new c.M(); } catch (z.Ill e) { } } }");
        Check.due("run", d.run("c.M.m"), -26);
        Check.due("OBJECTS", d.x.told(2), 200);
        Check.due("half of each", d.x.classOf(199) * 10 + d.x.classOf(200), 21);
    }

    /** Or more than 2000 fields in all, those of PARENTS too. */
    private static void fields2000() {
        StringBuilder ten = new StringBuilder();
        for (int i = 0; i < 10; i++) {
            ten.append("int f").append(i).append("; static int s").append(i).append("; ");
        }
        StringBuilder more = new StringBuilder();
        for (int i = 0; i < 9; i++) {
            more.append("z.Any f").append(i).append("; ");
        }
        String text = "open class c.P { " + ten + "} class c.N is c.P { " + more + "} class c.O { int x; } class c.M { static void n(int k) { while (k) { new c.N(); k = k - 1; } } static void o(int k) { while (k) { new c.O(); k = k - 1; } } "
            + "static void a1() { n(105); } static void b1() { o(5); } static void c1() { o(1); } static void d1() { new z.Ill(); } static void e1() { new z.Any(); } static void f1() { n(1); } static void g1() { o(4); } }";
        Check c = with(text);
        Check.due("105 times 19", c.run("c.M.a1"), 1);
        Check.due("fields", c.x.told(3), 1995);
        Check.due("19 more", c.run("c.M.f1"), -26);
        Check.due("fields", c.x.told(3), 1995);
        Check.due("OBJECTS", c.x.told(2), 105);
        Check.due("four more", c.run("c.M.g1"), 1);
        Check.due("fields", c.x.told(3), 1999);
        Check.due("the 2000th", c.run("c.M.d1"), 1);
        Check.due("fields", c.x.told(3), 2000);
        Check.due("the 2001st", c.run("c.M.c1"), -26);
        Check.due("a z.Ill's, too", c.run("c.M.d1"), -26);
        Check.due("without fields there is room", c.run("c.M.e1"), 1);
        Check.due("fields", c.x.told(3), 2000);
        Check.due("OBJECTS", c.x.told(2), 111);
        Check.due("fresh", c.x.fresh(), 4);
        Check.due("fields", c.x.told(3), 0);
    }

    /** 16 is behind the USE 1 and the START, ahead of ARGS and the USE 2. */
    private static void roomIsAsked() {
        Check c = new Check();
        c.stand(0, "open class a.A { open new(int p) { } } ");
        c.stand(1, "class c.M { static void m() { while (1) new z.Any(); } static void n() { new a.A(1); } }");
        c.make(0, "open bare class a.A { open new(int p) { } }");
        c.make(0, "open class a.A { }");
        c.make(0, "open class a.A { start { throw new z.Ill(); } }");
        c.run("c.M.m");
        Check.due("no room", c.run("c.M.n"), -26);
        int[] due = {-17, -26, -26};
        for (int i = 1; i <= 3; i++) {
            c.x.pick(0, i);
            c.run("c.M.m");
            Check.due("with build " + i, c.run("c.M.n"), due[i - 1]);
        }
    }

    /** Out tells an int (100 of a run, more are lost). */
    private static void outs100() {
        Check c = with("class c.M { static void n(int k) { let int i = 0; while (i < k) { out i * 3; i = i + 1; } } static void a1() { n(99); } static void b1() { n(100); } static void c1() { n(101); } static void d1() { n(150); throw null; } static void e1() { } }");
        int[] many = {99, 100, 100, 100, 0};
        String[] runs = {"c.M.a1", "c.M.b1", "c.M.c1", "c.M.d1", "c.M.e1"};
        for (int i = 0; i < runs.length; i++) {
            Check.due(runs[i], c.run(runs[i]), i == 3 ? -23 : 1);
            Check.due("numbers", c.x.told(1), many[i]);
            Check.due("the first", c.x.number(0), 0);
            Check.due("the 2nd", c.x.number(1), i == 4 ? 0 : 3);
            Check.due("the 99th", c.x.number(98), i == 4 ? 0 : 294);
            Check.due("the 100th", c.x.number(99), i == 0 || i == 4 ? 0 : 297);
            Check.due("no 101st", c.x.number(100), 0);
            Check.due("none", c.x.number(-1), 0);
        }
    }

    /** The 20001st of a run is 14 (not counted). */
    private static void steps20000() {
        // A call, a let, a while; then 9997 rounds of two, and one more asking.
        String loop = "let int i = 0; while (i < 9997) i = i + 1; ";
        String text = "class c.M { static int n; static void a1() { out 0; " + loop + "} static void b1() { out 0; " + loop + "out 1; } static void c1() { out 0; " + loop + "out 1; out 2; } static void d1() { out 0; " + loop + "n = 1; out 2; } "
            + "static void e1() { out 0; " + loop + "k(); } static void k() { } static void f1() { out 0; out 0; " + loop + "return ; } static void g1() { out 0; out 0; " + loop + "{ { } } } static void h1() { out 0; " + loop + "new z.Any(); } static void i1() { out 0; out 0; " + loop + "while (0) { } } static void j1() { out 0; " + loop + "while (0) { } } }";
        Check c = with(text);
        Check.due("19999", c.run("c.M.a1"), 1);
        Check.due("steps", c.x.told(0), 19999);
        Check.due("20000", c.run("c.M.b1"), 1);
        Check.due("steps", c.x.told(0), 20000);
        Check.due("numbers", c.numbers(), "0 1");
        Check.due("20001", c.run("c.M.c1"), -24);
        Check.due("steps", c.x.told(0), 20000);
        Check.due("the 20001st is not done", c.numbers(), "0 1");
        Check.due("20001", c.run("c.M.d1"), -24);
        Check.due("numbers", c.numbers(), "0");
        Check.due("a call is the 20001st", c.run("c.M.e1"), -24);
        Check.due("steps", c.x.told(0), 20000);
        Check.due("a return is the 20001st", c.run("c.M.f1"), -24);
        Check.due("BLOCKS are none", c.run("c.M.g1"), 1);
        Check.due("steps", c.x.told(0), 20000);
        Check.due("a maker of z.Any is none", c.run("c.M.h1"), 1);
        Check.due("steps", c.x.told(0), 20000);
        Check.due("a while is the 20001st", c.run("c.M.i1"), -24);
        Check.due("its asking is", c.run("c.M.j1"), -24);
        Check.due("each run has its own", c.run("c.M.a1"), 1);
        Check.due("steps", c.x.told(0), 19999);
    }

    /** Each S that is begun but BLOCKS, each E of a while that is asked, each call of a method or maker. */
    private static void stepsOfEach() {
        String[][] all = {{"", "1"}, {"{ }", "1"}, {"{ { } { } }", "1"}, {"out 1;", "2"}, {"let int i = 1;", "2"}, {"if (0) out 1;", "2"}, {"if (1) out 1;", "3"}, {"if (0) out 1; else out 2;", "3"}, {"if (1) { }", "2"}, {"while (0) out 1;", "3"}, {"let int i = 2; while (i) i = i - 1;", "8"}, {"let int i = 2; while (i) { i = i - 1; }", "8"},
            {"return ;", "2"}, {"try { } catch (z.Ill e) { }", "2"}, {"try { throw new z.Ill(); } catch (z.Ill e) { }", "3"}, {"try { throw new z.Ill(); } catch (z.Ill e) { out 1; }", "4"}, {"n();", "3"}, {"o();", "4"}, {"new c.M();", "3"}, {"new c.N();", "4"}, {"new c.P(1);", "6"}, {"new z.Ill();", "2"}, {"c.N.s = 1;", "2"}, {"out n2() + n2();", "6"}, {"return ; out 1;", "2"}};
        for (String[] each : all) {
            Check c = with("class c.M { static void m() { " + each[0] + " } static void n() { } static void o() { return ; } static int n2() { return 1; } } class c.N is c.M { static int s = t(); static int t() { return 1; } start { } } class c.P is c.M { int x = 1; new(int p) { super(); x = p; } }");
            c.run("c.M.m");
            Check.due("steps of " + each[0], c.x.told(0), Integer.parseInt(each[1]) + (each[0].contains("c.N") ? 2 : 0));
        }
    }

    /** 15 is behind 14. */
    private static void stepsAheadOfDepth() {
        String text = "class c.M { static void d(int n) { if (n) { d(n - 1); return ; } let int i = 0; while (i < 9962) i = i + 1; e(); } static void e() { } static void g() { d(21); } static void m() { % g(); } }";
        // m's call, g's S and call, d's S and call; of d(21) .. d(1) each an if, a S, a call; in the 24th call an if, let, while, the loop, e's S.
        int ahead = 1 + 2 + 2 + 21 * 3 + 3 + 2 * 9962 + 1 + 1;
        for (int spare = 0; spare < 6; spare++) {
            Check c = with(text.replace("%", Check.times("out 1; ", spare)));
            int steps = ahead + spare;
            Check.due("steps ahead of the 25th call: " + steps, c.run("c.M.m"), steps >= 20000 ? -24 : -25);
            Check.due("neither is a STEP", c.x.told(0), Math.min(steps, 20000));
        }
    }

    /** A call within 24 others and STARTS is 15 (that of run() is one). */
    private static void calls24() {
        Check c = with("class c.M { static void d(int n) { out n; if (n) d(n - 1); } static void a1() { d(22); } static void b1() { d(23); } static void c1() { d(21); d(22); } int f(int n) { out n; if (n) return f(n - 1); return 0; } static void g1() { new c.M().f(22); } static void h1() { new c.M().f(23); } "
            + "static void i1() { try { d(23); } catch (z.Ill e) { out 99; } } }");
        Check.due("24 calls", c.run("c.M.a1"), 1);
        Check.due("numbers", c.x.told(1), 23);
        Check.due("25 calls", c.run("c.M.b1"), -25);
        Check.due("numbers", c.numbers(), "23 22 21 20 19 18 17 16 15 14 13 12 11 10 9 8 7 6 5 4 3 2 1");
        Check.due("steps: the 25th call is none", c.x.told(0), 2 + 23 * 4 - 0);
        Check.due("one behind the other", c.run("c.M.c1"), 1);
        Check.due("methods of OBJECTS", c.run("c.M.g1"), 1);
        Check.due("methods of OBJECTS", c.run("c.M.h1"), -25);
        Check.due("none catches it", c.run("c.M.i1"), -25);
        Check.due("numbers", c.x.number(22), 1);
        Check.due("another run begins anew", c.run("c.M.a1"), 1);
    }

    /** Makers are calls, within them that of the PARENT; z.Any's and z.Ill's are none. */
    private static void makers24() {
        StringBuilder chain = new StringBuilder();
        for (int i = 0; i < 11; i++) {
            chain.append("open class c.A").append(i).append(i == 0 ? "" : " is c.A" + (i - 1)).append(" { } ");
        }
        Check c = with(chain + "class c.M { static void d(int n) { if (n) d(n - 1); else new c.A10(); } static void a1() { d(11); } static void b1() { d(12); } static void c1() { d(13); } static void e1() { k(22); } static void k(int n) { if (n) k(n - 1); else new z.Ill(); } }");
        // m, d(11) .. d(0): 13 calls; then 11 makers, one within the other: 24.
        Check.due("24", c.run("c.M.a1"), 1);
        Check.due("steps", c.x.told(0), 1 + 1 + 11 * 3 + 3 + 11);
        Check.due("25", c.run("c.M.b1"), -25);
        Check.due("steps", c.x.told(0), 1 + 1 + 12 * 3 + 3 + 10);
        Check.due("26", c.run("c.M.c1"), -25);
        Check.due("z.Ill's is no call", c.run("c.M.e1"), 1);
    }

    /** STARTS count with calls: a call within a START that is within a call. */
    private static void startsAndCalls24() {
        // m, d(n) .. d(0), the START, k, e(p) .. e(0)
        String text = "class c.M { static void d(int n) { if (n) d(n - 1); else out c.A.x; } static void m() { d(%); } } class c.A { static int x = k(); static int k() { return e(#); } static int e(int p) { if (p) return e(p - 1); return 5; } }";
        for (int n = 9; n <= 12; n++) {
            Check c = with(text.replace("%", "" + n).replace("#", "9"));
            int inside = 1 + (n + 1) + 1 + 1 + 10;
            Check.due(inside + " calls and STARTS", c.run("c.M.m"), inside <= 24 ? 1 : -25);
            Check.due("told", c.numbers(), inside <= 24 ? "5" : "");
            Check.due("it is STARTED, or has failed", c.x.state(3), inside <= 24 ? 4 : 7);
            Check.due("again", c.run("c.M.m"), inside <= 24 ? 1 : -19);
        }
        // A START within 24 calls, and within 23.
        String start = "class c.M { static void d(int n) { if (n) d(n - 1); else out c.A.x; } static void a1() { d(21); } static void b1() { d(22); } static void c1() { d(23); } } class c.A { static int x = 3; }";
        Check c = with(start);
        Check.due("a START within 23", c.run("c.M.a1"), 1);
        Check.due("it is STARTED", c.x.state(3), 4);
        Check.due("within 24 what is STARTED is nothing", c.run("c.M.b1"), 1);
        c.x.fresh();
        Check.due("a START within 24", c.run("c.M.b1"), -25);
        Check.due("LOADED, no more", c.x.state(3), 1);
        Check.due("within 24 calls the 25th", c.run("c.M.c1"), -25);
    }

    /** Each class of a row has its PARENT STARTED within its own START; a call in the inmost. */
    private static void startsAlone24() {
        for (int n = 22; n <= 25; n++) {
            for (int call = 0; call < 2; call++) {
                Check c = new Check();
                for (int lib = 0; lib < 3; lib++) {
                    StringBuilder text = new StringBuilder();
                    for (int k = lib * 9; k < n && k < lib * 9 + 9; k++) {
                        text.append("open class a.C").append(k).append(k == 0 ? "" : " is a.C" + (k - 1)).append(" { ").append(k == 0 && call == 1 ? "static int x = t(); static int t() { return 1; } " : "").append("open static void m() { } } ");
                    }
                    c.stand(lib, text.toString());
                }
                boolean well = n + call <= 24;
                Check.due(n + " STARTS and " + call + " calls", c.run("a.C" + (n - 1) + ".m"), well ? 1 : -25);
                Check.due("the first class", c.x.state(2), well ? 4 : call == 1 && n <= 24 ? 7 : 2);
                Check.due("the last class", c.x.state(n + 1), well ? 4 : 7);
            }
        }
    }

    /** 15: X stays as it was; what was being STARTED around it has failed. */
    private static void startTooDeepIsNotFailed() {
        Check c = with("class c.M { static void d(int n) { if (n) d(n - 1); else out c.A.x; } static void a1() { d(22); } static void b1() { d(0); } } class c.A { static int x = 3; }");
        Check.due("too deep", c.run("c.M.a1"), -25);
        Check.due("events", c.events(), "201 202 203 204 301");
        Check.due("it is STARTED later", c.run("c.M.b1"), 1);
        Check.due("events", c.events(), "201 202 203 204 301 302 303 304");
        Check d = with("class c.M { static void d(int n) { if (n) d(n - 1); else out c.A.x; } static void a1() { d(20); } static void b1() { d(0); } static void c1() { out c.B.y; } } class c.A { static int x = c.B.y; } class c.B { static int y = c.O.t(); } class c.O { static int t() { return 4; } }");
        Check.due("c.A in 22, c.B in 23, c.O in 24", d.run("c.M.a1"), -25);
        Check.due("events", d.events(), "201 202 203 204 301 302 303 401 402 403 501 407 307");
        Check.due("what failed", d.run("c.M.b1"), -19);
        Check.due("what failed", d.run("c.M.c1"), -19);
        Check.due("c.O stays as it was", d.x.state(5), 1);
    }

    /** Both come when all else is found for the call. */
    private static void depthComesLast() {
        String d = "static void d(int n) { if (n) d(n - 1); else { out 1; % } } static void m() { d(22); } ";
        fails("class c.M { " + d.replace("%", "let c.M v = null; v.f();") + "void f() { } }", 13, "1");
        fails("class c.M { " + d.replace("%", "new c.M().f();") + "void f() { } }", 15, "1");
        Check c = fails("class c.M { " + d.replace("%", "new c.M();") + "}", 15, "1");
        Check.due("the OBJECT is made", c.x.told(2), 1);
        fails("class c.M { " + d.replace("%", "c.M.k(c.M.n());") + "static void k(z.Any p) { } static z.Any n() { return null; } }", 15, "1");
        fails("class c.M { " + d.replace("%", "v.x = 1;") + "static c.M v; int x; }", 13, "1");
        Check u = new Check();
        u.stand(0, "open class a.A { open static void s() { } open void t() { } open new(int p) { } }");
        u.stand(1, "class c.M { static void d(int n) { if (n) d(n - 1); else a.A.s(); } static void a1() { d(22); } static void e(int n) { if (n) e(n - 1); else new a.A(1); } static void b1() { e(22); } static void f(int n, a.A v) { if (n) f(n - 1, v); else v.t(); } static void c1() { f(22, null); } }");
        u.make(0, "open class a.A { start { throw new z.Ill(); } }");
        u.x.pick(0, 1);
        Check.due("the USE ahead", u.run("c.M.a1"), -15);
        Check.due("the USE ahead", u.run("c.M.c1"), -15);
        Check.due("the START is too deep ahead of ARGS and USE 2", u.run("c.M.b1"), -25);
        u.make(0, "open class a.A { }");
        u.x.pick(0, 2);
        Check.due("the START is too deep", u.run("c.M.b1"), -25);
        Check.due("OBJECTS", u.x.told(2), 0);
    }

    /** A BRIDGE is a call that calls. */
    private static void bridgesAreCalls() {
        Check c = with("open class c.P { open z.Any f(int n) { return null; } } class c.M is c.P { open c.M f(int n) { out n; let c.P v = this; if (n) v.f(n - 1); return this; } static void a1() { new c.M().f(11); } static void b1() { new c.M().f(12); } static void c1() { let c.P v = new c.M(); v.f(10); } static void d1() { let c.P v = new c.M(); v.f(11); } }");
        // a1, f(11), then two for each: 2 + 22
        Check.due("24", c.run("c.M.a1"), 1);
        Check.due("numbers", c.x.told(1), 12);
        Check.due("25", c.run("c.M.b1"), -25);
        Check.due("numbers", c.x.told(1), 12);
        Check.due("23", c.run("c.M.c1"), 1);
        Check.due("a BRIDGE within 23, its call within 24", c.run("c.M.d1"), -25);
        Check.due("numbers", c.x.told(1), 11);
    }

    /** Nothing, if it is or is being STARTED; once. */
    private static void startedOnce() {
        Check c = outs("class c.M { static int x = 1; start { out x; c.M.x = c.M.x + 1; new c.M(); out c.A.y; } static void m() { out x; out c.A.y; } } class c.A { static int y = c.M.x; start { out 10; } }", "1 10 2 2 2");
        Check.due("run again", c.run("c.M.m"), 1);
        Check.due("no START", c.numbers(), "2 2");
        Check.due("events", c.events(), "201 202 203 301 302 303 304 204");
        c.x.fresh();
        Check.due("run", c.run("c.M.m"), 1);
        Check.due("START again", c.numbers(), "1 10 2 2 2");
    }

    /** 9 if that failed; LINKED (its failure: X stays as it was). */
    private static void startFails() {
        Check c = new Check();
        c.stand(0, "open class a.A { open static int x; }");
        c.stand(1, "class b.B { static int y; start { out 1; out a.A.x; out 2; } static void m() { } } class b.C is b.B { static void m() { } }");
        c.x.pick(0, LinkHouse.NONE);
        Check.due("its START fails", c.run("b.B.m"), -11);
        Check.due("numbers", c.numbers(), "1");
        Check.due("state", c.x.state(2), 7);
        Check.due("NEVER STARTED", c.run("b.B.m"), -19);
        Check.due("numbers", c.numbers(), "");
        Check.due("its heir's PARENT", c.run("b.C.m"), -19);
        Check.due("both failed", c.x.state(3), 7);
        Check.due("events", c.events(), "201 202 203 207 301 302 303 307");
        Check.due("again", c.run("b.C.m"), -19);
        Check.due("events", c.x.told(4), 8);
        Check d = new Check();
        d.stand(0, "open class a.P { open int f() { return 1; } }");
        d.stand(1, "class b.B is a.P { open int f() { return 2; } static void m() { } }");
        d.make(0, "open class a.P { open final int f() { return 1; } }");
        d.x.pick(0, 1);
        Check.due("it can't be LINKED", d.run("b.B.m"), -13);
        Check.due("it stays as it was", d.x.state(3), 6);
        Check.due("no 9: what it failed by again", d.run("b.B.m"), -13);
    }

    /** An OBJECT that is thrown out of it: 8; failures stay what they are; both: X failed. */
    private static void startThrows() {
        Check c = with("class c.M { static void a1() { try { out c.A.x; } catch (z.Ill e) { out 9; } } static void b1() { out c.B.y; } static void d1() { out c.D.z; } } class c.A { static int x = 1; start { out 1; throw new z.Ill(); } start { out 2; } } class c.B { static int y = c.A.x; } class c.D { static int z; start { try { throw new z.Ill(); } catch (z.Ill e) { out 3; } z = 4; } }");
        Check.due("8 is a failure", c.run("c.M.a1"), -18);
        Check.due("nothing catches it", c.numbers(), "1");
        Check.due("value", c.x.value(), 0);
        Check.due("9 then", c.run("c.M.a1"), -19);
        Check.due("9 stays what it is", c.run("c.M.b1"), -19);
        Check.due("what is caught within is none", c.run("c.M.d1"), 1);
        Check.due("numbers", c.numbers(), "3 4");
        c.x.fresh();
        Check.due("8 stays what it is", c.run("c.M.b1"), -18);
        Check.due("both failed", c.x.state(3) * 10 + c.x.state(4), 77);
        Check d = with("class c.M { static int x = 20; start { while (1) { } } static void m() { } } ");
        Check.due("14 out of it", d.run("c.M.m"), -24);
        Check.due("failed", d.x.state(2), 7);
        Check.due("9", d.run("c.M.m"), -19);
        Check.due("steps", d.x.told(0), 0);
    }

    /** For its FACES in order, each ahead of it its own FACES likewise: that is STARTED, if it has a method neither bare nor static (a face STARTS no others). */
    private static void startsOfFaces() {
        String o = "class c.O { static int o(int p) { out p; return p; } } ";
        String face = "face c.F1 { int x1 = c.O.o(1); int f1(); static int g1() { return 1; } } face c.F2 as c.F1 { int x2 = c.O.o(2); int f2() { return 1; } } face c.F3 as c.F2 { int x3 = c.O.o(3); } face c.F4 { int x4 = c.O.o(4); own int f4() { return 1; } } face c.F5 as c.F3, c.F4 { int x5 = c.O.o(5); int f5() { return 1; } } ";
        outs(o + face + "class c.M is c.P as c.F5 { start { c.O.o(6); } static void m() { out 7; } open int f1() { return 1; } } class c.P { start { c.O.o(0); } }", "0 2 4 5 6 7");
        outs(o + face + "bare class c.M as c.F1, c.F3 { start { c.O.o(6); } static void m() { out 7; } }", "2 6 7");
        outs(o + face + "class c.M { static void m() { out c.F5.x5; out c.F1.g1(); out c.F1.x1; } }", "5 5 1 1 1");
        outs(o + face + "bare class c.P as c.F4 { } class c.M is c.P as c.F2, c.F4 { start { c.O.o(6); } static void m() { out 7; } open int f1() { return 1; } }", "4 2 6 7");
        // A BRIDGE is a method neither bare nor static.
        outs(o + "face c.F { z.Any f(); } face c.G as c.F { int y = c.O.o(8); c.G f(); } bare class c.M as c.G { static void m() { out 7; } }", "7");
    }

    /** Then its static CONSTANTS are set, then E's of other static fields and starts are done in order. */
    private static void constantsAhead() {
        outs("class c.M { static int a1 = f(); static final int k = 5; static final int l = g(); static int f() { return c.N.get(); } static int g() { return 6; } static void m() { out a1; out k; out l; } } class c.N { static int get() { return new c.O().k() * 10 + c.O.l(); } } class c.O is c.M { static int l() { return l; } int k() { return k; } }", "50 5 6");
        Check c = with("class c.M { static int x = p(); static final int k = 5; static int p() { k2(); return k; } static void k2() { out k; } start { k = 6; out k; } static void m() { out x; } }");
        Check.due("run", c.run("c.M.m"), 1);
        Check.due("the value stands for it", c.numbers(), "5 5 5");
    }

    /** What was no CONSTANT when it was asked for is got as a field is; the CONSTANTS are set ahead of all E's. */
    private static void constantsAsFields() {
        Check c = new Check();
        c.stand(0, "open class a.A { open static int k; open static int l; open static int x; }");
        c.stand(1, "open class b.B { open static int get() { out a.A.k; out a.A.l; return a.A.x; } static void m() { out a.A.x; out a.A.k; } }");
        c.x.pick(0, LinkHouse.NONE);
        Check.due("now they are", c.make(0, "open class a.A { open static int x = 1 + b.B.get(); open static final int l = 6; open static final int k = 5; start { out k; k = 8; out k; b.B.get(); } }"), 1);
        c.x.pick(0, 1);
        Check.due("run", c.run("b.B.m"), 1);
        Check.due("set ahead, put behind", c.numbers(), "5 6 5 5 8 6 1 8");
    }

    /** A CONSTANT is set, whichever member it is, where another build GETs it. */
    private static void constantTheFirst() {
        for (String now : new String[] {"open static final int k = 5; open int j;", "open int j; open static final int k = 5;", "open int i() { return 1; } open new() { } open static int j = 1; open static final int k = 5; int l;"}) {
            Check c = new Check();
            c.stand(0, "open class a.A { open static int k; }");
            c.stand(1, "class b.B { static void m() { out a.A.k; } }");
            c.make(0, "open class a.A { " + now + " }");
            c.x.pick(0, 1);
            Check.due("run", c.run("b.B.m"), 1);
            Check.due(now, c.numbers(), "5");
        }
    }

    private static void startsHaveLocals() {
        outs("class c.M { static int x = 2 + f(3); start { let int i = 0; while (i < 3) { let int k = i * 2; out k + f(i); i = i + 1; } let int j = i * 2; let z.Any v = new c.M(); out j + (i + f(j)); out v == null; } static int y = 4 + f(x); start { let int i = 9; { let int k = 8; out i + k; } out f(i); } static int f(int p) { let int q = p; return q; } static void m() { out x; out y; } }",
            "0 3 6 15 0 17 9 5 9");
    }

    /** A try ends with what stands in it, however that is left. */
    private static void triesEnd() {
        outs("class c.E is z.Ill { } class c.M { static int r(int p) { try { if (p) return 5; } catch (c.E e) { out 9; } return 6; } static int w(int p) { while (1) { try { try { if (p) return 7; p = 1; } catch (c.E e) { out 8; } } catch (z.Ill e) { out 9; } } throw null; } "
            + "static void m() { try { out r(1); throw new c.E(); } catch (c.E e) { out 1; } try { out r(0); throw new c.E(); } catch (c.E e) { out 2; } try { out w(0); throw new c.E(); } catch (c.E e) { out 3; } out t(); try { q(); } catch (c.E e) { out 11; } } "
            + "static int t() { try { throw new c.E(); } catch (c.E e) { try { return r(1) + 5; } catch (c.E f) { out 4; } } return 0; } static void q() { try { r(1); } catch (c.E e) { out 12; } throw new c.E(); } }", "5 1 6 2 7 3 10 11");
    }

    /** A call by a face, of whatever, a GET and a PUT START no face. */
    private static void facesNotStarted() {
        String o = "class c.O { static int o(int p) { out p; return p; } } ";
        outs(o + "face c.F { int x = c.O.o(1); int f(); } class c.M as c.F { int i; open int f() { return 2; } static void m() { let c.F v = new c.M(); out v.f(); let c.M w = new c.M(); w.i = 3; out w.i; out v ask c.F; out c.F.x; } }", "2 3 1 1 1");
        // The first member alone is what makes it one that is STARTED, or the last.
        outs(o + "face c.F { int f() { return 1; } int x = c.O.o(1); int g(); } face c.G { static int s() { return 1; } int g(); int x = c.O.o(2); } face c.H { int y = c.O.o(3); own int h() { return 1; } } class c.M as c.F, c.G, c.H { open int g() { return 4; } static void m() { out 5; } }", "1 3 5");
    }

    /** Behind fresh() and pick() fields and statics are 0 and null again. */
    private static void fieldsAnew() {
        Check c = with("class c.M { static int n; static c.M last; int x; c.M y; static int m() { out n; out last == null; last = new c.M(); out last.x; out last.y == null; n = 7; last.x = 8; last.y = last; return n; } }");
        for (int turn = 0; turn < 3; turn++) {
            Check.due("run", c.run("c.M.m"), 1);
            Check.due("at first", c.numbers(), "0 1 0 1");
            Check.due("its field", c.x.fieldOf(1, 0) * 10 + c.x.fieldOf(1, 1), 81);
            if (turn == 0) {
                c.x.fresh();
            } else {
                c.x.pick(0, 0);
            }
            Check.due("none", c.x.fieldOf(1, 0), 0);
        }
    }

    /** Statics and fields are 0 and null at first. */
    private static void staticsAtFirst() {
        outs("class c.M { static int i; static c.M v; int j; c.M w; static int k = i + 1; static void m() { out i; out v == null; let c.M n = new c.M(); out n.j; out n.w == null; out k; out c.N.q; } } class c.N { static int q = r; static int r = 4; }", "0 1 0 1 1 0");
    }

    /** The USE 1; C STARTED; the OBJECT is made; ARGS; the USE 2; the maker is called: super( ), E's of fields, the rest. */
    private static void orderOfNew() {
        Check c = outs("class c.M { static int o(int p) { out p; return p; } static void m() { new c.B(o(2)); } } class c.A { start { out 0; } int p = c.M.o(4); new(int q) { out 5; } } class c.B is c.A { start { out 1; } int r = c.M.o(6); int s = c.M.o(7); new(int q) { super(c.M.o(3)); out 8; } }", "0 1 2 3 4 5 6 7 8");
        Check.due("OBJECTS", c.x.told(2), 1);
        Check d = new Check();
        d.stand(0, "open class a.A { open new(int p) { } }");
        d.stand(1, "class b.B { static int o(int p) { out p; return p; } static void m() { new a.A(o(1)); } } class b.C is a.A { new() { super(b.B.o(2)); out 3; } static void m() { new b.C(); } }");
        d.make(0, "open class a.A { start { b2(); } static void b2() { out 9; } }");
        d.x.pick(0, 1);
        Check.due("the USE 2 is behind ARGS", d.run("b.B.m"), -15);
        Check.due("numbers", d.numbers(), "9 1");
        Check.due("the OBJECT was made", d.x.told(2), 1);
        Check.due("super's USE is behind its ARGS", d.run("b.C.m"), -15);
        Check.due("numbers", d.numbers(), "2");
        d.make(0, "open bare class a.A { start { b2(); } static void b2() { out 9; } }");
        d.x.pick(0, 2);
        Check.due("the USE 1 is ahead of all", d.run("b.B.m"), -17);
        Check.due("numbers", d.numbers(), "");
        Check.due("no OBJECT", d.x.told(2), 0);
        outs("class c.M { int x = 3; new() { return ; } new(int p) { x = p; return ; } static void m() { out new c.M().x; out new c.M(5).x; } }", "3 5");
    }

    /** GET: what is in front, the USE, 13 null, the value; PUT: what is in front, the value, the USE, 13, put; static ones: the value, the USE, the START. */
    private static void orderOfGetAndPut() {
        Check c = new Check();
        c.stand(0, "open class a.A { open int x; open static int s; }");
        c.stand(1, "class b.B { static a.A n() { out 1; return null; } static a.A a1() { out 2; return new a.A(); } static int o() { out 3; return 7; } static void g() { out n().x; } static void p() { n().x = o(); } static void q() { a1().x = o(); } static void s() { a.A.s = o(); } static void t() { out a.A.s; } }");
        Check.due("GET of null", c.run("b.B.g"), -23);
        Check.due("PUT of null", c.run("b.B.p"), -23);
        Check.due("the value is behind what is in front, ahead of 13", c.numbers(), "1 3");
        Check.due("PUT", c.run("b.B.q"), 1);
        Check.due("numbers", c.numbers(), "2 3");
        Check.due("put", c.x.fieldOf(c.x.told(2), 0), 7);
        c.make(0, "open class a.A { start { out 4; } own int x; own static int s; }");
        c.x.pick(0, 1);
        Check.due("the USE is ahead of 13", c.run("b.B.g"), -12);
        Check.due("numbers", c.numbers(), "1");
        Check.due("the USE is ahead of 13", c.run("b.B.p"), -12);
        Check.due("numbers", c.numbers(), "1 3");
        Check.due("the value is ahead of the USE", c.run("b.B.s"), -12);
        Check.due("numbers", c.numbers(), "3");
        Check.due("the USE is ahead of the START", c.run("b.B.t"), -12);
        Check.due("numbers", c.numbers(), "");
        c.make(0, "open class a.P { start { out 4; } open static int s = 5; } open class a.A is a.P { start { out 6; } open int x; }");
        c.x.pick(0, 2);
        Check.due("the FIELD's class is STARTED", c.run("b.B.t"), 1);
        Check.due("that alone", c.numbers(), "4 5");
        c.x.fresh();
        Check.due("behind the value", c.run("b.B.s"), 1);
        Check.due("numbers", c.numbers(), "3 4");
    }

    /** What is in front, ARGS, the USE; 7, 8: 13; 8: 3; the SELECTED; 9, 10: the method's class is STARTED. */
    private static void orderOfCalls() {
        Check c = new Check();
        c.stand(0, "open class a.A { open int f(int p) { return p; } open static int s(int p) { return p; } }");
        c.stand(1, "class b.B { static a.A n() { out 1; return null; } static int o() { out 3; return 7; } static void f() { n().f(o()); } static void s() { out a.A.s(o()); } }");
        Check.due("of null", c.run("b.B.f"), -23);
        Check.due("ARGS are ahead of 13", c.numbers(), "1 3");
        c.make(0, "open class a.P { start { out 4; } open static int s(int p) { out 5; return p; } } open class a.A is a.P { start { out 6; } }");
        c.x.pick(0, 1);
        Check.due("the USE is ahead of 13", c.run("b.B.f"), -15);
        Check.due("numbers", c.numbers(), "1 3");
        Check.due("the method's class is STARTED, behind ARGS", c.run("b.B.s"), 1);
        Check.due("that alone", c.numbers(), "3 4 5 7");
    }

    /** CAST of null and ask of null (0) ask no USE. */
    private static void nullsAskNoUse() {
        Check c = new Check();
        c.stand(0, "open class a.A { } ");
        c.stand(1, "class b.B { static z.Any n; static void m() { out n ask a.A; out (a.A) n == null; out (z.Any) n == null; } static void k() { n = new b.B(); out n ask a.A; } static void l() { n = new b.B(); out (a.A) n == null; } }");
        c.x.pick(0, LinkHouse.NONE);
        Check.due("of null", c.run("b.B.m"), 1);
        Check.due("numbers", c.numbers(), "0 1 1");
        Check.due("ask", c.run("b.B.k"), -11);
        Check.due("CAST", c.run("b.B.l"), -11);
    }

    /** CAST: 12, if the OBJECT's class is neither C nor an HEIR of it (OBJECTS are z.Any's, too). */
    private static void castsAndAsks() {
        String text = "face c.F { } face c.G as c.F { } class c.P as c.G { } class c.Q is c.P { } class c.R { } class c.M { static z.Any o(int p) { if (p == 0) return new c.P(); if (p == 1) return new c.Q(); if (p == 2) return new c.R(); return new z.Any(); } static void t(int p) { let z.Any v = o(p); out v ask z.Any; out v ask c.F; out v ask c.G; out v ask c.P; out v ask c.Q; out v ask c.R; out v ask z.Ill; } "
            + "static void m() { t(0); t(1); t(2); t(3); out (z.Any) o(3) == null; out (c.F) o(1) == null; out (c.P) o(1) == null; } static void p0() { let c.Q v = (c.Q) o(0); } static void p1() { let c.F v = (c.F) o(2); } static void p2() { let c.R v = (c.R) o(3); } }";
        Check c = outs(text, "1 1 1 1 0 0 0 1 1 1 1 1 0 0 1 0 0 0 0 1 0 1 0 0 0 0 0 0 0 0 0");
        for (String run : new String[] {"c.M.p0", "c.M.p1", "c.M.p2"}) {
            Check.due(run, c.run(run), -22);
        }
        // A class without PARENT there can't be an OBJECT's; what is LOADED is z.Any's.
        Check d = outs("class c.M { static void m() { let z.Any v = new z.Ill(); out v ask z.Any; out v ask z.Ill; out (z.Ill) v == v; } }", "1 1 1");
        Check.due("OBJECTS", d.x.told(2), 1);
    }

    /** Throw: 13 null. Catch: the USE; if it is C's or an HEIR's, the catch's BLOCK; else it goes on. */
    private static void caught() {
        fails("class c.M { static void m() { try { let z.Ill v = null; throw v; } catch (z.Ill e) { out 1; } } }", 13, "");
        String text = "class c.E is z.Ill { } class c.F is c.E { } class c.G is z.Ill { } class c.M { static void t(int p) { if (p == 0) throw new c.E(); if (p == 1) throw new c.F(); if (p == 2) throw new c.G(); if (p == 3) throw new z.Ill(); } "
            + "static void a1(int p) { try { try { t(p); out 0; } catch (c.E e) { out 1; } out 2; } catch (z.Ill e) { out 3; } } static void m() { a1(0); a1(1); a1(2); a1(3); a1(4); } static void u() { try { t(2); } catch (c.E e) { out 1; } out 2; } "
            + "static void w() { try { try { t(0); } catch (c.E e) { throw new c.G(); } } catch (c.E e) { out 5; } } }";
        Check c = outs(text, "1 2 1 2 3 3 0 2");
        Check.due("it goes on", c.run("c.M.u"), 2);
        Check.due("numbers", c.numbers(), "");
        Check.due("value", c.x.value(), c.x.told(2));
        Check.due("what a catch's BLOCK throws its own try does not catch", c.run("c.M.w"), 2);
        Check.due("value", c.x.classOf(c.x.value()), 4);
        // The USE is asked when something comes out, and not else; its failure ends all.
        Check d = new Check();
        d.stand(0, "open class a.E is z.Ill { }");
        d.stand(1, "class c.M { static void m() { try { throw new z.Ill(); } catch (a.E e) { out 1; } } static void n() { try { try { out 2; } catch (a.E e) { out 1; } throw new z.Ill(); } catch (z.Ill e) { out 3; } } static void k() { try { try { throw new z.Ill(); } catch (a.E e) { out 1; } } catch (z.Ill e) { out 4; } } }");
        d.make(0, "class a.E is z.Ill { }");
        d.x.pick(0, 1);
        Check.due("not LET", d.run("c.M.m"), -12);
        Check.due("not asked", d.run("c.M.n"), 1);
        Check.due("numbers", d.numbers(), "2 3");
        Check.due("no one catches that", d.run("c.M.k"), -12);
        Check.due("numbers", d.numbers(), "");
    }

    /** 8: 3 if the OBJECT's class is no HEIR of C; 2 if the SELECTED is neither open nor own; its failures 3, 6. */
    private static void faceCalls() {
        Check c = new Check();
        c.stand(0, "open face a.F { int f(); } open class a.P as a.F { open int f() { return 1; } } open class a.V { open static a.P v = new a.P(); open static a.F w = v; }");
        c.stand(1, "class b.B { static void m() { let a.F x = a.V.v; out x.f(); } static void n() { let a.F x = a.V.w; out x.f(); } static void k() { let a.F x = new b.C(); out x.f(); } } class b.C is a.P { }");
        Check.due("well", c.run("b.B.m"), 1);
        String[] now = {"open face a.F { int f(); } open class a.P { open int f() { return 1; } } open class a.V { open static a.P v = new a.P(); open static a.F w; }",
            "open face a.F { } open class a.P as a.F { } open class a.V { open static a.P v = new a.P(); open static a.F w = v; }",
            "open face a.F { int f(); } open bare class a.P as a.F { } open class a.Q is a.P { open int f() { return 2; } } open class a.V { open static a.P v = new a.Q(); open static a.F w = v; }",
            "open face a.F { int f(); } open class a.P as a.F { kin int f() { return 1; } } open class a.V { open static a.P v = new a.P(); open static a.F w = v; }",
            "open face a.F { own int f() { return 7; } } open class a.P as a.F { open int f() { return 1; } } open class a.V { open static a.P v = new a.P(); open static a.F w = v; }",
            "open face a.F { int f(); } open face a.G as a.F { int f() { return 3; } } open face a.H as a.F { int f() { return 4; } } open bare class a.P as a.G, a.H { } open class a.Q is a.P { open int f() { return 5; } } open class a.V { open static a.P v = new a.Q(); open static a.F w = v; }"};
        int[][] due = {{-13, -23, -13}, {-15, -15, -15}, {1, 1, -16}, {0, 0, 0}, {-12, -12, -12}, {1, 1, -13}};
        for (int i = 0; i < now.length; i++) {
            if (i == 3) {
                Check.due("f is less open there", c.make(0, now[i]), -19);
                continue;
            }
            int build = c.make(0, now[i]);
            c.x.pick(0, build);
            String[] runs = {"b.B.m", "b.B.n", "b.B.k"};
            for (int r = 0; r < 3; r++) {
                c.x.fresh();
                Check.due(runs[r] + " with " + now[i], c.run(runs[r]), due[i][r]);
            }
        }
    }

    /** BARE, too, if what is SELECTED is bare: by a class, by a face, whatever failed ahead. */
    private static void selectedIsBare() {
        Check c = new Check();
        c.stand(0, "open class a.P { open int f() { return 1; } open int g() { return 2; } } open face a.F { int f(); int g(); }");
        c.stand(1, "class b.C is a.P as a.F { static void m() { let a.P v = new b.C(); out v.f(); } static void n() { let a.F v = new b.C(); out v.f(); } static void o() { let a.F v = new b.C(); out v.g(); } static void k() { let a.F v = new b.D(); out v.g(); } static void l() { out new b.D().f(); } } class b.D is b.C { open int f() { return 3; } }");
        String[] runs = {"m", "n", "o", "k", "l"};
        int[][] due = {{1, 1, 1, 1, 1}, {-16, -16, 1, 1, 1}, {-16, -16, -13, -13, 1}, {-16, -16, -16, -16, 1}};
        c.make(0, "open bare class a.P { open bare int f(); open int g() { return 2; } } open face a.F { int f(); int g(); }");
        c.make(0, "open bare class a.P as a.G, a.H { open bare int f(); } open face a.F { int f(); int g(); } open face a.G as a.F { int g() { return 4; } } open face a.H as a.F { int g() { return 5; } }");
        c.make(0, "open bare class a.P as a.G { open bare int f(); open bare int g(); } open face a.F { int f(); int g(); } open face a.G as a.F { int g() { return 4; } }");
        for (int turn = 0; turn < 2; turn++) {
            for (int build = 0; build < due.length; build++) {
                c.x.pick(0, build);
                for (int i = 0; i < runs.length; i++) {
                    int r = turn == 0 ? i : runs.length - 1 - i;
                    Check.due(runs[r] + " with build " + build, c.run("b.C." + runs[r]), due[build][r]);
                }
            }
        }
    }

    /** What an E gives is one value, whatever it took: what stands left of it, ARGS ahead of it, are as they were. */
    private static void whatStandsBelow() {
        String text = "class c.M { static final int kk = 1; static int s = 1; int x = 1; int y; int f() { return 1; } static int g() { return 1; } static int h(z.Any p) { return p == null; } int i(int p, int q, int r) { return q - p - r; } "
            + "static int three(int p, int q, int r) { return p * 100 + q * 10 + r; } static void k(z.Any p, int q, z.Any r) { out p == r; out q; out r == null; } static void m() { let c.M v = new c.M(); let z.Any n = null; "
            + "out 5 - #; out 7 * #; out # + #; out # == #; out 0 < #; out three(2, #, 3); out three(#, 2, #); k(v, #, v); k(null, #, new z.Any()); v.y = #; v.y = v.y + #; out v.y; if (#) out 6; let int w = #; out w; out v == new c.M(); } }";
        String[] ones = {"1", "(2 - 1)", "v ask c.M", "new c.M() ask c.M", "(n == null)", "(new z.Any() ask z.Any)", "(new z.Ill() ask z.Any)", "v.f()", "g()", "c.M.g()", "new c.M().f()", "v.x", "s", "c.M.s", "kk", "c.M.kk", "(0 < 1)", "((c.M) v).x", "(v == (c.M) v)", "new c.M().x", "h(null)", "(h(v) + 1)",
            "v.i(2, 4, 1)", "((new z.Any() == null) + 1)"};
        for (String one : ones) {
            outs(text.replace("#", one), "4 7 2 1 1 213 121 1 1 0 0 1 0 2 6 1 0");
        }
        outs("class c.M { static int two(z.Any p, z.Any q) { return p == q; } static void m() { out new z.Any() == new z.Any(); out new z.Ill() == new z.Ill(); let z.Any v = new z.Any(); out v == new z.Any(); out new z.Any() == v; out two(v, new z.Any()); out two(new z.Any(), v); out two(v, v); out two(new z.Ill(), new z.Ill()); let z.Ill w = new z.Ill(); w.code = 4; out new z.Ill().code - w.code; out two(w, (z.Any) w); } }",
            "0 0 0 0 0 0 1 0 -4 1");
    }

    /** In a world of as many classes as can be, the last of them are asked, made, called, STARTED again and again. */
    private static void amongManyClasses() {
        Check c = new Check();
        for (int lib = 0; lib < 4; lib++) {
            StringBuilder text = new StringBuilder();
            for (int i = 0; i < 12; i++) {
                text.append("open class ").append((char) ('a' + lib)).append(".A").append(i).append(i == 0 ? "" : " is " + (char) ('a' + lib) + ".A" + (i - 1)).append(" { open static int s = ").append(i).append("; } ");
            }
            c.stand(lib, text.toString());
        }
        StringBuilder text = new StringBuilder();
        for (int i = 0; i < 11; i++) {
            text.append("class e.A").append(i).append(i == 0 ? "" : " is e.A" + (i - 1)).append(" { int x").append(i).append(" = ").append(i).append("; static int s").append(i).append(" = ").append(i).append("; int f() { return x").append(i).append(" + s").append(i).append("; } } ");
        }
        text.append("class e.M { static void m() { let int i = 0; while (i < 3) { let e.A0 v = new e.A10(); out v.f(); out new e.A9().f(); let e.A10 w = (e.A10) v; out w.x10 + e.A10.s10; w.x0 = w.x0 + 1; out v.x0; out v ask e.A9; out v ask e.A10; e.A9.s9 = e.A9.s9 + 1; d.A11.s = d.A11.s + i; out d.A11.s; i = i + 1; } } }");
        c.stand(4, text.toString());
        Check.due("classes", c.x.told(5), 62);
        for (int turn = 0; turn < 2; turn++) {
            Check.due("run", c.run("e.M.m"), 1);
            Check.due("numbers", c.numbers(), "20 18 20 1 1 1 11 20 19 20 1 1 1 12 20 20 20 1 1 1 14");
            Check.due("the last OBJECT's class", c.x.classOf(c.x.told(2)), 59);
            Check.due("the last class", c.x.state(61), 4);
            c.x.fresh();
        }
    }

    /** A 16 never is asked: the value stands for it, also when it is STALE. */
    private static void staleCopies() {
        Check c = new Check();
        c.stand(0, "open class a.A { open static final int k = 5; start { out 9; } }");
        c.stand(1, "class b.B { static final int l = a.A.k * 2; static void m() { out a.A.k; out l; out b.B.l + a.A.k; } }");
        Check.due("run", c.run("b.B.m"), 1);
        Check.due("numbers", c.numbers(), "5 10 15");
        Check.due("a.A was not asked", c.events(), "301 302 303 304");
        c.make(0, "open class a.A { open static final int k = 6; }");
        c.x.pick(0, 1);
        Check.due("run", c.run("b.B.m"), 1);
        Check.due("the build's own", c.numbers(), "5 10 15");
        c.x.pick(0, LinkHouse.NONE);
        Check.due("run", c.run("b.B.m"), 1);
        Check.due("also when it is not there", c.numbers(), "5 10 15");
    }

    /** A failure ends all that runs; what was put and made stays. */
    private static void afterFailure() {
        Check c = with("class c.M { static int x; static c.M v; int y; static void a1() { x = 3; v = new c.M(); v.y = 4; n(); x = 9; } static void n() { throw null; } static int b1() { return x * 10 + v.y; } static void d1() { x = 5; throw new z.Ill(); } }");
        Check.due("a failure", c.run("c.M.a1"), -23);
        Check.due("OBJECTS", c.x.told(2), 1);
        Check.due("its field", c.x.fieldOf(1, 0), 4);
        Check.due("run", c.run("c.M.b1"), 1);
        Check.due("value", c.x.value(), 34);
        Check.due("thrown", c.run("c.M.d1"), 2);
        Check.due("value", c.x.value(), 2);
        Check.due("run", c.run("c.M.b1"), 1);
        Check.due("value", c.x.value(), 54);
    }

    /** How many classes were LOADED without failure (but 0, 1). */
    private static void fresh() {
        Check c = new Check();
        Check.due("of no builds", c.x.fresh(), 0);
        c.stand(0, "open class a.P { } final class a.L { }");
        c.stand(1, "class b.B is a.P { static void m() { new b.C(); } static void n() { new b.D(); } static void k() { new z.Ill(); } } class b.C { start { throw new z.Ill(); } } class b.D is b.B { }");
        Check.due("nothing ran", c.x.fresh(), 0);
        c.run("b.B.k");
        Check.due("but 0, 1", c.x.fresh(), 2);
        c.run("b.B.m");
        Check.due("what did not START was LOADED", c.x.state(5), 7);
        Check.due("so it counts", c.x.fresh(), 3);
        Check.due("none any more", c.x.fresh(), 0);
        c.run("b.B.n");
        Check.due("three", c.x.fresh(), 3);
        c.make(0, "open final class a.P { }");
        c.x.pick(0, 1);
        c.run("b.B.k");
        Check.due("without failure: a.P alone", c.x.fresh(), 1);
        Check.due("OBJECTS, fields, events", c.x.told(2) + c.x.told(3) + c.x.told(4), 0);
    }

    /** Asked by the machine as it is; what is LOADED stays. */
    private static void touched() {
        Check c = new Check();
        c.stand(0, "open class a.P { open int x; start { out 1; } }");
        c.stand(1, "class b.B is a.P { int f(a.P v) { return v.x; } static final int k = 1; static int l = k; }");
        int u = c.useOf(1, 0, "3 a.P.x:int");
        Check.due("touch", c.x.touch(1, 0, u), 0);
        Check.due("LOADED", c.events(), "201 301");
        Check.due("nothing more", c.x.state(2) * 10 + c.x.state(3), 11);
        Check.due("touch", c.x.touch(1, 0, u), 0);
        Check.due("it stays", c.x.told(4), 2);
        Check.due("no STEPS", c.x.told(0), 0);
        Check.due("a COPY", c.x.touch(1, 0, c.useOf(1, 0, "16 b.B.k=1")), 0);
        c.x.fresh();
        Check.due("a COPY LOADS nothing", c.x.touch(1, 0, c.useOf(1, 0, "16 b.B.k=1")), 0);
        Check.due("events", c.x.told(4), 0);
        Check.due("meet", c.x.meet(1, 0, u), 0);
        Check.due("met", c.x.met(), 9);
        Check.due("another touch", c.x.touch(1, 0, 0), 0);
        Check.due("met stays", c.x.met(), 9);
        Check.due("looked stays", c.x.looked(0), 2);
    }

    /** THE TAPE is C.NAME, just so. */
    private static void runNames() {
        Check c = with("class c.M { static int m() { return 1; } static int abcdefghij() { return 2; } static int a() { return 3; } int i() { return 4; } static int p(int q) { return 5; } static int o() { return 6; } static int o(int q) { return 7; } own static int w() { return 8; } static void v() { } } "
            + "class c.Abcdefgh9 { static int z9() { return 9; } } bare class c.N { static int m() { return 10; } bare int b(); } face c.F { static int m() { return 11; } int d() { return 12; } int e(); } class c.H is c.M { } final class c.L { static int m() { throw new z.Ill(); } }");
        String[][] runs = {{"c.M.m", "1"}, {"c.M.abcdefghij", "2"}, {"c.M.a", "3"}, {"c.M.o", "6"}, {"c.M.w", "8"}, {"c.Abcdefgh9.z9", "9"}, {"c.N.m", "10"}, {"c.F.m", "11"}, {"c.M.v", "0"}};
        for (String[] r : runs) {
            Check.due("run " + r[0], c.run(r[0]), 1);
            Check.due("value of " + r[0], c.x.value(), Integer.parseInt(r[1]));
            Check.due("THE TAPE is empty", c.x.told(6), 0);
        }
        String[] none = {"", " ", "c.M.m ", " c.M.m", "c.M.m\n", "c .M.m", "c.M .m", "c.M. m", "c.M.m()", "c.M.m;", "c.M", "c.M.", ".m", "m", "c.M.M", "c.M.m.m", "c.M.mm", "c.M.i", "c.M.p", "c.M.abcdefghijk", "c.Abcdefgh99.z9", "c.X.m", "d.M.m", "c.N.b", "c.F.d", "c.F.e", "c.H.m", "z.Any.m", "z.Ill.code", "c.M.start", "c.M.new", "c.M.out", "C.M.m", "cc.M.m", "c.M.1", "c.M.m$", "$", "c.M.m\0", "c.M+m", "c.M=m", "c.M(m", "c.M,m", "c.M;m", "c.M<m", "m.m", "h.m", "cM.m", "1.m", "(.m", "this.m", "c.M.c.M", "c.M..m", "c.M=.m", "c.Mm", "c..M.m"};
        c.run("c.M.o");
        for (String n : none) {
            Check.due("run of '" + n + "'", c.run(n), LinkHouse.NONE);
            Check.due("THE TAPE is empty", c.x.told(6), 0);
        }
        Check.due("value stays", c.x.value(), 6);
        Check.due("steps stay", c.x.told(0), 2);
        Check.due("thrown", c.run("c.L.m"), 2);
        Check a = with("class a.M { static int m() { return 1; } } class a.A { static int a() { return 2; } }");
        for (String n : new String[] {"m.m", "M.m", "aM.m", "a.m", "a.a", "a.M.m.m", "a.a.M.m", "a.M.M", "null.m", "a.M.a"}) {
            Check.due("run of '" + n + "'", a.run(n), LinkHouse.NONE);
        }
        Check.due("run", a.run("a.M.m") * 10 + a.run("a.A.a"), 11);
        Check d = new Check();
        d.stand(1, "class c.M { static int m() { return 1; } static int n() { return 2; } }");
        d.stand(0, "class c.M { static int m() { return 3; } }");
        Check.due("THE WORLD has the first", d.run("c.M.m"), 1);
        Check.due("value", d.x.value(), 3);
        Check.due("itself", d.run("c.M.n"), LinkHouse.NONE);
        d.x.pick(0, LinkHouse.NONE);
        Check.due("the other one then", d.run("c.M.n"), 1);
        Check full = with("class c.M { static int m() { return 1; } }");
        full.tape(Check.times(" ", 4000));
        Check.due("of 4000 bytes", full.x.run(), LinkHouse.NONE);
        Check.due("THE TAPE is empty", full.x.told(6), 0);
    }

    /** An int, an OBJECT's number, 0 for null, void and when it failed; the OBJECT thrown. */
    private static void valuesGiven() {
        Check c = with("class c.M { static int i() { return 0 - 7; } static c.M o() { return new c.M(); } static c.M n() { return null; } static void v() { new c.M(); } static int t() { throw new z.Ill(); } static int f() { throw null; } static int s() { return c.A.x; } static z.Any w() { return o(); } } class c.A { static int x; start { throw new z.Ill(); } }");
        String[] runs = {"i", "o", "n", "v", "t", "f", "s", "w"};
        int[] answers = {1, 1, 1, 1, 2, -23, -18, 1};
        int[] due = {-7, 1, 0, 0, 3, 0, 0, 5};
        for (int i = 0; i < runs.length; i++) {
            Check.due("run " + runs[i], c.run("c.M." + runs[i]), answers[i]);
            Check.due("value of " + runs[i], c.x.value(), due[i]);
            Check.due("asked twice", c.x.value(), due[i]);
        }
        Check d = with("class c.M { static void m() { let int i = 7; let c.M v = new c.M(); i = i + 1; } static void n() { let int i = 7; return ; } static void k() { let int i = 9; while (i) { let int j = i; i = i - 1; out j; f(j); } } static int f(int p) { return p * 2; } static void l() { f(3); new c.M(); let int i = f(4); f(i); } static void t() { try { throw new z.Ill(); } catch (z.Ill e) { let int i = 5; return ; } } }");
        for (String run : new String[] {"m", "n", "k", "l", "t"}) {
            Check.due("run " + run, d.run("c.M." + run), 1);
            Check.due("void gives 0: " + run, d.x.value(), 0);
        }
        c.run("c.M.i");
        c.x.pick(0, LinkHouse.NONE);
        Check.due("it stays behind pick", c.x.value(), -7);
        c.x.choose();
        Check.due("and choose", c.x.value(), -7);
        Check.due("steps, too", c.x.told(0), 2);
    }

    /** 0 ahead of any run; those of the latest that was not NONE. */
    private static void answersAheadOfAny() {
        Check c = new Check();
        for (int what = 0; what < 5; what++) {
            Check.due("told " + what, c.x.told(what), 0);
        }
        Check.due("value", c.x.value(), 0);
        Check.due("number", c.x.number(0), 0);
        Check.due("event", c.x.event(0), LinkHouse.BAD);
        Check.due("classOf", c.x.classOf(1), LinkHouse.BAD);
        Check.due("fieldOf", c.x.fieldOf(1, 0), 0);
        Check.due("run", c.run("c.M.m"), LinkHouse.NONE);
        Check.due("value", c.x.value(), 0);
        c.stand(0, "class c.M { static int m() { out 3; out 4; return 5; } static void n() { } }");
        c.run("c.M.m");
        Check.due("steps", c.x.told(0), 4);
        Check.due("numbers", c.x.told(1), 2);
        c.run("c.M.x");
        Check.due("steps", c.x.told(0), 4);
        Check.due("numbers", c.numbers(), "3 4");
        c.x.fresh();
        c.x.pick(0, LinkHouse.NONE);
        c.make(0, "");
        Check.due("they stay", c.numbers() + " " + c.x.told(0), "3 4 4");
        c.x.pick(0, 0);
        c.run("c.M.n");
        Check.due("the latest", c.x.told(0), 1);
        Check.due("numbers", c.x.told(1), 0);
        Check.due("number", c.x.number(0), 0);
    }

    /** 100 times the class's number and 1 .. 7, each when it is so. */
    private static void eventsAndStates() {
        Check c = new Check();
        c.stand(0, "open class a.P { start { out 1; } } open face a.F { int x = 1 == null ask a.F; int f() { return 1; } } open face a.G { int y = 2; }");
        c.stand(1, "class b.B is a.P as a.F, a.G { static int s = 1; static void m() { new b.C(); } } class b.C { start { throw new z.Ill(); } }");
        Check.due("fails", c.run("b.B.m"), -18);
        Check.due("events", c.events(), "201 301 401 501 202 302 402 502 503 203 204 303 304 504 601 602 603 607");
        int[] due = {4, 4, 4, 4, 2, 4, 7};
        for (int k = 0; k < due.length; k++) {
            Check.due("state " + k, c.x.state(k), due[k]);
        }
        Check.due("event", c.x.event(17), 607);
        Check.due("no more", c.x.event(18), LinkHouse.BAD);
        Check.due("none", c.x.event(-1), LinkHouse.BAD);
        Check.due("told", c.x.told(4), 18);
        c.x.fresh();
        for (int k = 0; k < due.length; k++) {
            Check.due("state " + k, c.x.state(k), k < 2 ? 4 : 0);
        }
        Check.due("none", c.x.event(0), LinkHouse.BAD);
    }

    /** Fields in order, those of PARENTS ahead; static ones are none. */
    private static void fieldsInOrder() {
        Check c = with("open class c.P is z.Ill { int a1 = 1; static int s1 = 99; c.P b1 = this; } class c.Q is c.P { static int s2 = 98; int c1 = 3; final int d1 = 4; static final int k = 5; c.P e1; new() { code = 7; } static c.Q m() { return new c.Q(); } }");
        Check.due("run", c.run("c.Q.m"), 1);
        int[] due = {7, 1, 1, 3, 4, 0};
        for (int k = 0; k < due.length; k++) {
            Check.due("field " + k, c.x.fieldOf(1, k), due[k]);
        }
        Check.due("fields", c.x.told(3), 6);
        Check.due("no seventh", c.x.fieldOf(1, 6), 0);
        Check.due("none", c.x.fieldOf(1, -1), 0);
        Check.due("no OBJECT", c.x.fieldOf(2, 0), 0);
        Check.due("run", c.run("c.Q.m"), 1);
        Check.due("the next one's first", c.x.fieldOf(2, 0), 7);
        Check.due("its b1", c.x.fieldOf(2, 2), 2);
        Check.due("not the next one's", c.x.fieldOf(1, 6), 0);
    }

    /** An object is used for at most 512 calls: the 512th answers as the first. */
    private static void calls512() {
        LinkHouse x = new LinkHouse();
        for (int i = 1; i <= 200; i++) {
            Check.due("feed", x.feed(0x20202020, 0x20202020, 0x20202020, 0x20202020, 0x20202020), 20 * i);
        }
        for (int i = 201; i < 511; i++) {
            Check.due("cut", x.cut(1), 4200 - i);
        }
        Check.due("the 511th", x.make(4), 0);
        Check.due("the 512th", x.text(4, 0), 3690);
    }
}
