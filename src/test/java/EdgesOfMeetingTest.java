/** Part 4 of the document, and promises 19 to 29: what is LOADED and LINKED, what a USE meets, what is told of it, at the bounds. */
public final class EdgesOfMeetingTest {
    public static void main(String[] args) {
        numbersInTheWorld();
        loadedParent();
        loadedFaces();
        rings();
        failsByItAgain();
        nothingMoreIsTold();
        linkedOverrides();
        linkedUses();
        itsOwnUsesAlone();
        fourFaces();
        linkedOneByOne();
        sortsOfC();
        makersMet();
        fieldsMet();
        methodsMet();
        supersMet();
        catchesMet();
        copies();
        fitsMet();
        firstThatIsLoaded();
        nestsAsked();
        otherLibrarys();
        metAndLooked();
        brokenList();
        staleCount();
        chosen();
        Check.end("EdgesOfMeetingTest");
    }

    /** A world of library 1's build of that text, made beside library 0's old one, that stands with its new one now. */
    private static Check world(String old, String user, String now) {
        Check c = new Check();
        c.stand(0, old);
        c.stand(1, user);
        Check.due(now, c.make(0, now), 1);
        c.x.pick(0, 1);
        return c;
    }

    private static void meets(String old, String user, String now, String... due) {
        Check c = world(old, user, now);
        for (String s : due) {
            String told = s.substring(0, s.lastIndexOf(": "));
            Check.due(now + " " + s, told + ": " + c.meet(1, 0, told), s);
        }
    }

    /** 0 z.Any, 1 z.Ill, then those of the builds in order of libraries (of one name the first alone). */
    private static void numbersInTheWorld() {
        Check c = new Check();
        c.stand(4, "class e.A { } class e.B { }");
        c.stand(2, "class c.A { } class c.B { } class c.C { }");
        c.stand(0, "class a.A { } class c.B { } class e.A { }");
        String[] due = {"z.Any", "z.Ill", "a.A", "c.B", "e.A", "c.A", "c.C", "e.B"};
        Check.due("classes", c.x.told(5), due.length);
        for (int k = 0; k < due.length; k++) {
            Check.due("letters", c.x.name(k), due[k].length());
            Check.due("name", c.out(), due[k]);
            Check.due("state", c.x.state(k), k < 2 ? 4 : 0);
        }
        Check.due("none", c.x.name(due.length), LinkHouse.BAD);
        c.x.pick(0, LinkHouse.NONE);
        Check.due("classes", c.x.told(5), 7);
        c.x.name(3);
        Check.due("name", c.out(), "c.B");
        // Whichever class it is of the build ahead: the first of all, one between, the last.
        for (String name : new String[] {"a.A", "a.B", "a.C"}) {
            Check d = new Check();
            d.stand(0, "class a.A { } class a.B { } class a.C { }");
            d.stand(1, "class " + name + " { } class b.B { }");
            Check.due("classes with two " + name, d.x.told(5), 6);
            d.x.name(5);
            Check.due("the last", d.out(), "b.B");
        }
        StringBuilder twelve = new StringBuilder();
        for (int i = 0; i < 12; i++) {
            twelve.append("class %.A").append(i).append(" { } ");
        }
        Check full = new Check();
        for (int lib = 0; lib < 5; lib++) {
            full.stand(lib, twelve.toString().replace("%", "" + (char) ('a' + lib)));
        }
        Check.due("as many as can be", full.x.told(5), 62);
        full.x.name(61);
        Check.due("the last", full.out(), "e.A11");
        Check.due("its state", full.x.state(61), 0);
        Check.due("none", full.x.state(62), LinkHouse.BAD);
    }

    /** Its PARENT: 1; what it fails by; 3 a face; 2 not LET to X; 3 final; 3 it has 'only', and X is not in that. */
    private static void loadedParent() {
        String old = "open class a.P { }";
        String user = "class b.B is a.P { void f() { f(); } }";
        String[][] all = {{"open class a.Q { }", "1"}, {"open face a.P { }", "3"}, {"face a.P { }", "3"}, {"class a.P { }", "2"}, {"final class a.P { }", "2"}, {"open final class a.P { }", "3"}, {"class a.P only a.P { }", "2"}, {"open class a.P only a.P { }", "3"},
            {"open class a.P only a.P, b.B { } class b.B { }", "-2"}, {"open bare class a.P { }", "0"}, {"open face a.Q { } open class a.P as a.Q { }", "0"}};
        for (String[] each : all) {
            Check c = world(old, user, each[0]);
            int due = Integer.parseInt(each[1]);
            Check.due("18 with " + each[0], c.x.meet(1, 0, 0), due);
            Check.due("another USE of it with " + each[0], c.x.meet(1, 0, 1), due);
            Check.due("touch with " + each[0], c.x.touch(1, 0, 1), due);
            Check.due("state", c.x.state(c.x.told(5) - 1), due == -2 ? 0 : due == 0 ? 1 : 5);
        }
        Check c = new Check();
        c.stand(1, "open class a.P only b.B { } class b.B { }");
        c.stand(0, "class b.B is a.P { }");
        Check.due("it is in 'only'", c.x.meet(0, 0, 0), 0);
    }

    /** Then its FACES in order likewise (3 a class; not final). */
    private static void loadedFaces() {
        String old = "open face a.F { } open face a.G { }";
        String user = "class b.B as a.F, a.G { }";
        String[][] all = {{"open face a.F { }", "1"}, {"open face a.G { }", "1"}, {"open face a.F { } open class a.G { }", "3"}, {"open face a.F { } open final class a.G { }", "3"}, {"open face a.F { } class a.G { }", "3"}, {"open face a.F { } face a.G { }", "2"},
            {"face a.F { } open class a.G { }", "2"}, {"open class a.F { } face a.G { }", "3"}, {"open face a.F only a.F { } open face a.G { }", "3"}, {"open face a.F { } open face a.G only a.G { }", "3"}, {"open face a.F as a.G { } open face a.G as a.H { } open face a.H { }", "0"}};
        for (String[] each : all) {
            meets(old, user, each[0], "19 a.F: " + each[1] + "  []", "19 a.G: " + each[1] + "  []");
        }
        // Its PARENT ahead of its FACES.
        meets("open class a.P { } open face a.F { }", "class b.B is a.P as a.F { }", "face a.F { }", "18 a.P: 1  []", "19 a.F: 1  []");
        meets("open class a.P { } open face a.F { }", "class b.B is a.P as a.F { }", "face a.F { } open class a.P { }", "18 a.P: 2  []", "19 a.F: 2  []");
        // What a PARENT, a face fails by.
        meets("open class a.P { } open face a.F { }", "open class b.P is a.P { } class b.B is b.P { } open face b.F as a.F { } class b.C as b.F { }", "class a.P { } open class a.F { }", "18 b.P: 2  []", "19 b.F: 3  []", "18 a.P: 2  []", "19 a.F: 3  []");
    }

    /** 10 if X is being LOADED. */
    private static void rings() {
        Check c = new Check();
        c.stand(0, "open class a.A { } open class a.X { open static int x; }");
        c.stand(1, "open class b.B is a.A { void f(a.X v) { out a.X.x; out this ask a.X; } }");
        c.stand(2, "open class c.C is b.B { }");
        c.stand(3, "class d.D { void f() { new c.C(); new a.X(); } }");
        c.make(0, "open class a.X { open static int x; }");
        c.x.pick(0, LinkHouse.NONE);
        c.x.pick(1, LinkHouse.NONE);
        c.x.pick(2, LinkHouse.NONE);
        c.stand(4, "open class c.C { }");
        Check.due("upon another c.C", c.make(0, "open class a.A is c.C { } open class a.X { open static int x; }"), 2);
        c.x.pick(4, LinkHouse.NONE);
        c.x.pick(0, 2);
        c.x.pick(1, 0);
        c.x.pick(2, 0);
        Check.due("a ring of three", c.meet(0, 2, "18 c.C"), "10  []");
        Check.due("a ring of three", c.meet(1, 0, "18 a.A"), "10  []");
        Check.due("of all their USES", c.meet(1, 0, "5 a.X.x:int"), "10  []");
        Check.due("of all their USES", c.meet(1, 0, "14 a.X"), "10  []");
        Check.due("of who asks it", c.meet(3, 0, "1 c.C"), "10  []");
        Check.due("of others not", c.meet(3, 0, "1 a.X"), "0  []");
        Check.due("touch", c.x.touch(3, 0, c.useOf(3, 0, "1 c.C")), 10);
        Check.due("each when it is so, the inmost first", c.events(), "601 205 405 505");
        Check.due("again", c.x.touch(1, 0, 0), 10);
        Check.due("no more events", c.x.told(4), 4);
        Check.due("LOADED without failure", c.x.fresh(), 1);
        Check.due("another way in", c.x.touch(1, 0, 0), 10);
        Check.due("the inmost first", c.events(), "505 205 405");
    }

    /** Another class X once, and what it failed by it fails by again. */
    private static void failsByItAgain() {
        Check c = world("open class a.P { } open face a.F { }", "open class b.B is a.P { int f() { return 1; } static int g() { return new b.B().f(); } } class b.C { static void m() { new b.B(); } static void n() { new b.D(); } } class b.D as a.F { }", "class a.P { }");
        int u = c.useOf(1, 0, "18 a.P");
        Check.due("it fails", c.x.touch(1, 0, u), 2);
        Check.due("events", c.events(), "201 305");
        Check.due("by it again", c.x.touch(1, 0, u), 2);
        Check.due("by another USE", c.x.touch(1, 0, c.useOf(1, 0, "7 b.B.f()int")), 2);
        Check.due("by another's", c.run("b.C.m"), -12);
        Check.due("by a run of its own", c.run("b.B.g"), -12);
        Check.due("another failure of another", c.run("b.C.n"), -11);
        Check.due("once each", c.events(), "201 305 401 402 403 404 505");
        Check.due("states", c.x.state(3) * 100 + c.x.state(5), 505);
        Check.due("fresh", c.x.fresh(), 2);
        Check.due("state", c.x.state(3), 0);
        Check.due("from the start", c.x.touch(1, 0, u), 2);
        Check.due("events", c.events(), "201 305");
    }

    /** LINKED: of one that can't be LOADED that failure, and nothing more is told of it. */
    private static void nothingMoreIsTold() {
        Check c = world("open class a.P { open static int x; open static void s() { } }", "open class b.B is a.P { static void m() { } static int y; } class b.C { static void m() { b.B.m(); } static void n() { out b.B.y; } }", "open final class a.P { open static int x; open static void s() { } }");
        Check.due("run", c.run("b.B.m"), -13);
        Check.due("LOADING failed, and no more", c.events(), "201 305");
        Check.due("state", c.x.state(3), 5);
        Check.due("run", c.run("b.B.m"), -13);
        Check.due("run", c.run("b.C.m"), -13);
        Check.due("run", c.run("b.C.n"), -13);
        Check.due("events", c.events(), "201 305 401 402 403 404");
        Check.due("steps: the call, then its S", c.x.told(0), 2);
    }

    /** 3 a method of it, not static, not own, OVERRIDES a final one. */
    private static void linkedOverrides() {
        String user = "class b.B is a.P { % static void m() { } }";
        String[][] all = {{"open int f() { return 2; }", "open class a.P { open final int f() { return 1; } }", "3"}, {"kin int f() { return 2; }", "open class a.P { kin final int f() { return 1; } }", "3"}, {"int f() { return 2; }", "open class a.P { final int f() { return 1; } }", "0"},
            {"open int f() { return 2; }", "open class a.P { open final void f() { } }", "0"}, {"open int f() { return 2; }", "open class a.P { open final int f(int p) { return 1; } }", "0"}, {"open int f() { return 2; }", "open class a.P { own final int f() { return 1; } }", "0"},
            {"open int f() { return 2; }", "open class a.P { open static final int f() { return 1; } }", "0"}, {"open static int f() { return 2; }", "open class a.P { open final int f() { return 1; } }", "0"}, {"own int f() { return 2; }", "open class a.P { open final int f() { return 1; } }", "0"},
            {"open int f() { return 2; }", "open class a.Q { open final int f() { return 1; } } open class a.P is a.Q { }", "3"}, {"open int f() { return 2; }", "open class a.Q { open final z.Any f() { return null; } } open class a.P is a.Q { open int f(int p) { return 1; } }", "0"}};
        for (String[] each : all) {
            Check c = world("open class a.P { }", user.replace("%", each[0]), each[1]);
            int due = Integer.parseInt(each[2]);
            Check.due(each[0] + " with " + each[1], c.run("b.B.m"), due == 0 ? 1 : -10 - due);
            Check.due("state", c.x.state(c.x.told(5) - 1), due == 0 ? 4 : 6);
            Check.due("it meets nothing", c.x.meet(1, 0, 0), 0);
        }
        // A BRIDGE is a method of it.
        Check d = world("open class a.P { open z.Any f() { return null; } }", "class b.B is a.P { open b.B f() { return this; } static void m() { } }", "open class a.P { open final z.Any f() { return null; } }");
        Check.due("by its BRIDGE", d.run("b.B.m"), -13);
        // By one between that OVERRIDES it.
        Check e = new Check();
        e.stand(0, "open class a.P { int f() { return 1; } } open class a.Q is a.P { open int f() { return 1; } }");
        e.stand(1, "class b.B is a.Q { open int f() { return 2; } static void m() { } }");
        e.make(0, "open class a.P { final int f() { return 1; } } open class a.Q is a.P { }");
        e.x.pick(0, 1);
        Check.due("none between", e.run("b.B.m"), 1);
    }

    /** Then its USES 17, and 15 without 2, in order; the PARENT and FACES are LINKED ahead. */
    private static void linkedUses() {
        String old = "open class a.P { } open class a.Q is a.P { } open class a.E is z.Ill { } open class a.R { }";
        String user = "class b.B { static void m() { out 1; } void f(a.Q q) { let a.P p = q; try { } catch (a.E e) { } new a.R(); } }";
        String[][] all = {{old, "0", "401 402 403 404"}, {"open class a.P { } open class a.Q { } open class a.E is z.Ill { }", "11", "501 201 301 506"}, {"open class a.P { } open class a.E is z.Ill { }", "1", "401 201 406"}, {"open class a.Q { } open class a.E is z.Ill { }", "1", "401 406"},
            {"open class a.P { } open class a.Q is a.P { }", "1", ""}, {"open class a.P { } open class a.Q is a.P { } open class a.E { }", "11", ""}, {"open class a.P { } open class a.Q is a.P { } class a.E is z.Ill { }", "0", ""},
            {"class a.P { } class a.Q is a.P { } class a.E is z.Ill { }", "0", ""}, {"open face a.P { } open class a.Q { } class a.E is z.Ill { }", "0", ""}, {"open class a.P { } open class a.Q { } open class a.E { }", "11", "501 201 301 506"}, {"open class a.P { } open face a.Q { } class a.E is z.Ill { }", "11", ""}};
        for (String[] each : all) {
            Check c = world(old, user, each[0]);
            int due = Integer.parseInt(each[1]);
            Check.due(each[0], c.run("b.B.m"), due == 0 ? 1 : -10 - due);
            int own = c.x.told(5) - 1;
            Check.due("state with " + each[0], c.x.state(own), due == 0 ? 4 : 6);
            String events = c.events();
            if (due != 0 && !each[2].isEmpty()) {
                Check.due("events with " + each[0], events, each[2]);
            }
            Check.due("it fails by it again", c.run("b.B.m"), due == 0 ? 1 : -10 - due);
            Check.due("once", c.events(), events);
        }
        Check c = world("open class a.P { } open class a.Q is a.P { }", "open face b.F { a.P v = w(null); static a.Q w(a.Q q) { let a.P p = q; return q; } } open class b.P { void f(a.Q q) { let a.P p = q; } } class b.C is b.P { static void m() { } } class b.D as b.F { static void m() { } }", "open class a.P { } open class a.Q { }");
        Check.due("its PARENT is not LINKED", c.run("b.C.m"), -21);
        Check.due("both failed", c.events(), "501 601 201 301 506 606");
        c.x.fresh();
        Check.due("a face of it is not LINKED", c.run("b.D.m"), -21);
        Check.due("both failed", c.events(), "401 701 201 301 406 706");
    }

    /** Of a class its own USES 17 and 15 alone: not those of the classes beside it, nor those of a build ahead or behind. */
    private static void itsOwnUsesAlone() {
        String old = "open class a.P { } open class a.Q is a.P { } open class a.E is z.Ill { }";
        String fits = "{ static void m() { } void f(a.Q q) { let a.P p = q; } } ";
        String catches = "{ static void m() { } void f() { try { } catch (a.E e) { } } } ";
        String none = "{ static void m() { } } ";
        for (String odd : new String[] {fits, catches}) {
            Check c = world(old, "class b.B " + none + "class b.C " + odd + "class b.D " + none + "face b.F " + odd.replace("void f", "own void f") + "face b.G " + none + "class b.H " + odd + "class b.I " + odd, "open class a.P { } open class a.Q { } open class a.E { }");
            c.stand(2, "class c.C " + none);
            boolean[] well = {true, false, true, false, true, false, false};
            for (int k = 0; k < well.length; k++) {
                String name = "b." + "BCDFGHI".charAt(k);
                Check.due("run of " + name, c.run(name + ".m"), well[k] ? 1 : -21);
                Check.due("state of " + name, c.x.state(5 + k), well[k] ? 4 : 6);
            }
            Check.due("run of c.C", c.run("c.C.m"), 1);
        }
    }

    /** Each of four FACES is LOADED, LINKED, STARTED in order, and what one fails by its class fails by. */
    private static void fourFaces() {
        String faces = "open face a.E { int e() { return 1; } } open face a.F as a.E { } open face a.G { static int g() { return 1; } } open face a.H { int h(); } open face a.I { int i() { return 1; } } open class a.K is a.Q { } open class a.Q { }";
        String user = "bare class b.A as a.F, a.G, a.H, a.I { static void m() { } }";
        Check c = new Check();
        c.stand(0, faces);
        c.stand(1, user);
        Check.due("run", c.run("b.A.m"), 1);
        Check.due("events", c.events(), "201 301 401 501 601 901 202 302 402 502 602 902 903 203 204 603 604 904");
        for (String f : new String[] {"a.F", "a.G", "a.H", "a.I"}) {
            String loading = faces.replace("open face " + f, "open class " + f).replace("class a.F as a.E", "class a.F").replace("int h();", "");
            Check d = world(faces, user, loading);
            Check.due(f + " is a class", d.run("b.A.m"), -13);
            Check.due("state", d.x.state(9), 5);
            Check.due("its own USE", d.meet(1, 0, "19 " + f), "3  []");
            Check e = world(faces, user, faces.replace("face " + f, "face " + f.replace("a.", "a.X")));
            Check.due(f + " is not there", e.run("b.A.m"), -11);
            Check.due("state", e.x.state(9), 5);
            // Not LINKED: a.K is no a.Q any more.
            Check g = new Check();
            g.stand(0, "open class a.K is a.Q { } open class a.Q { }");
            g.stand(1, faces.replace(" open class a.K is a.Q { } open class a.Q { }", "").replaceAll("(face " + f + "[^{]*\\{)", "$1 int x = y(null); static int y(a.K k) { let a.Q q = k; return 1; }"));
            g.stand(2, user);
            Check.due("run with " + f, g.run("b.A.m"), 1);
            g.make(0, "open class a.K { } open class a.Q { }");
            g.x.pick(0, 1);
            Check.due(f + " is not LINKED", g.run("b.A.m"), -21);
            Check.due("state", g.x.state(9), 6);
            Check.due("state of " + f, g.x.state(f.charAt(2) - 'E' + 4), 6);
        }
    }

    /** Each is LINKED behind its own PARENT, whatever was LINKED ahead. */
    private static void linkedOneByOne() {
        Check c = new Check();
        c.stand(0, "class a.G { } class a.P is a.G { } class a.A is a.P { static void m() { } } class a.H { } class a.Q is a.H { } class a.B is a.Q { static void m() { } }");
        Check.due("run", c.run("a.A.m"), 1);
        Check.due("events", c.events(), "201 301 401 202 302 402 403 303 203 204 304 404");
        Check.due("run", c.run("a.B.m"), 1);
        Check.due("events", c.events(), "201 301 401 202 302 402 403 303 203 204 304 404 501 601 701 502 602 702 703 603 503 504 604 704");
    }

    private static final String LIB = "open class a.P { open int i; open static int s; open new() { } open new(int p) { } open int m() { return 1; } open static int t() { return 2; } } open class a.Q is a.P { open new() { } } open face a.F { int f(); int d() { return 1; } static int w() { return 3; } int c = 0 + w(); }";
    private static final String ALL = "class b.B { void all(a.Q q, a.F f) { new a.Q(); out q.i; q.i = 1; out a.Q.s; a.Q.s = 2; out q.m(); out f.f(); out a.Q.t(); out a.F.w(); let z.Any v = (a.Q) null; out v ask a.F; out a.F.c; } }";

    /** D's row C: 1; LOADED; 2 not LET to D; then by sorts: 7, 3. */
    private static void sortsOfC() {
        String[] uses = {"1 a.Q", "2 a.Q.new()", "3 a.Q.i:int", "4 a.Q.i:int", "5 a.Q.s:int", "6 a.Q.s:int", "7 a.Q.m()int", "9 a.Q.t()int", "13 a.Q", "14 a.F", "8 a.F.f()int", "10 a.F.w()int", "5 a.F.c:int"};
        for (String use : uses) {
            boolean face = use.contains("a.F");
            meets(LIB, ALL, "open class a.X { }", use + ": 1  []");
            meets(LIB, ALL, face ? "face a.F { }" : "class a.Q { }", use + ": 2  []");
            meets(LIB, ALL, face ? "class a.F { }" : "face a.Q { }", use + ": 2  []");
        }
        meets(LIB, ALL, "open face a.Q { } open class a.F { }", "1 a.Q: 7  []", "2 a.Q.new(): 3  []", "3 a.Q.i:int: 4  [a.Q]", "7 a.Q.m()int: 3  []", "9 a.Q.t()int: 3  []", "13 a.Q: 0  []", "14 a.F: 0  []", "8 a.F.f()int: 3  []", "10 a.F.w()int: 3  []", "5 a.F.c:int: 4  [a.F z.Any]");
        meets(LIB, ALL, "open bare class a.Q { } open face a.F { }", "1 a.Q: 7  []", "2 a.Q.new(): 0 a.Q.new() [a.Q]", "13 a.Q: 0  []");
        meets(LIB, ALL, "open final class a.Q { } open face a.F only a.F { }", "1 a.Q: 0  []", "13 a.Q: 0  []", "14 a.F: 0  []");
        // What C fails by, as it is LOADED.
        Check c = new Check();
        c.stand(0, "open class a.P { }");
        c.stand(1, "open class b.Q is a.P { open int i; open new() { } open int m() { return 1; } }");
        c.stand(2, "class c.C { void f(b.Q q) { new b.Q(); out q.i; q.i = 1; out q.m(); let z.Any v = (b.Q) null; out v ask b.Q; } }");
        c.x.pick(0, LinkHouse.NONE);
        for (int u = 0; u < c.x.uses(2, 0); u++) {
            Check.due("by the PARENT of C", c.x.meet(2, 0, u), 1);
        }
        Check.due("uses", c.x.uses(2, 0), 7);
    }

    /** 2: 3 a face; 5 no own maker of these PARAMS; 2. */
    private static void makersMet() {
        String user = "class b.B { void f() { new a.P(1); } } class b.C is a.P { new() { super(1); } }";
        String old = "open class a.P { open new(int p) { } }";
        String use = "2 a.P.new(int)";
        Check c = world(old, user, "open class a.Q { open new(int p) { } } open class a.P is a.Q { open new() { super(1); } open new(z.Any p) { super(1); } }");
        Check.due("none of its own", c.meet(1, 0, use), "5  [a.P]");
        for (String access : new String[] {"own ", "", "kin ", "open "}) {
            Check d = world(old, user, "open class a.P { " + access + "new(int p) { } }");
            String found = " a.P.new(int) [a.P]";
            Check.due("of who makes one", d.meet(1, 0, use), (access.equals("open ") ? 0 : 2) + found);
            int u = d.useOf(1, 0, "18 a.P") + 1;
            d.x.tell(1, 0, u);
            Check.due("the heir's", d.out(), use);
            Check.due("of an heir", d.x.meet(1, 0, u), access.equals("open ") || access.equals("kin ") ? 0 : 2);
        }
        meets("open class a.P { }", "class b.B { void f() { new a.P(); } }", "open class a.P { void f() { } }", "2 a.P.new(): 0 a.P.new() [a.P]");
    }

    /** 3 .. 6: the FIELD of NAME and type of C: 4; 2; 3; 2 if it is final and not D's own. */
    private static void fieldsMet() {
        String user = "class b.B { int f(a.Q q) { q.i = q.i; a.Q.s = a.Q.s; return 1; } }";
        String q = " open class a.Q is a.P { }";
        meets(LIB, user, "open class a.P { open z.Any i; open z.Any s; }" + q, "3 a.Q.i:int: 4  [a.Q a.P z.Any]", "4 a.Q.i:int: 4  [a.Q a.P z.Any]", "5 a.Q.s:int: 4  [a.Q a.P z.Any]", "6 a.Q.s:int: 4  [a.Q a.P z.Any]");
        for (String access : new String[] {"own ", "", "kin "}) {
            // 2 is ahead of 3.
            meets(LIB, user, "open class a.P { " + access + "static int i; " + access + "int s; }" + q, "3 a.Q.i:int: 2 a.P.i:int [a.Q a.P]", "4 a.Q.i:int: 2 a.P.i:int [a.Q a.P]", "5 a.Q.s:int: 2 a.P.s:int [a.Q a.P]", "6 a.Q.s:int: 2 a.P.s:int [a.Q a.P]");
        }
        meets(LIB, user, "open class a.P { open static final int i; open final int s; }" + q, "3 a.Q.i:int: 3 a.P.i:int [a.Q a.P]", "4 a.Q.i:int: 3 a.P.i:int [a.Q a.P]", "5 a.Q.s:int: 3 a.P.s:int [a.Q a.P]", "6 a.Q.s:int: 3 a.P.s:int [a.Q a.P]");
        meets(LIB, user, "open class a.P { open final int i; open static final int s; }" + q, "3 a.Q.i:int: 0 a.P.i:int [a.Q a.P]", "4 a.Q.i:int: 2 a.P.i:int [a.Q a.P]", "5 a.Q.s:int: 0 a.P.s:int [a.Q a.P]", "6 a.Q.s:int: 2 a.P.s:int [a.Q a.P]");
        // A nearer one of another type is none; a nearer one that is not LET is the one.
        meets(LIB, user, "open class a.P { open int i; open static int s; } open class a.Q is a.P { open z.Any i; own static int s; }", "3 a.Q.i:int: 0 a.P.i:int [a.Q a.P]", "5 a.Q.s:int: 2 a.Q.s:int [a.Q]");
        // A face's is static and final.
        meets(LIB, user, "open face a.F { int i = 1; int s = 2; } open class a.P { open int i; open static int s; } open class a.Q is a.P as a.F { }", "3 a.Q.i:int: 3 a.F.i:int [a.Q a.F]", "5 a.Q.s:int: 0 a.F.s:int [a.Q a.F]", "6 a.Q.s:int: 2 a.F.s:int [a.Q a.F]");
        // D's own final ones may be put, wherever.
        Check c = new Check();
        c.stand(0, "class a.A { final int e; static final int t; new() { e = 1; } start { t = 2; } }");
        Check.due("its own", c.meet(0, 0, "4 a.A.e:int"), "0 a.A.e:int [a.A]");
        Check.due("its own", c.meet(0, 0, "6 a.A.t:int"), "0 a.A.t:int [a.A]");
    }

    /** 7 .. 10: the own one, or that of the nearest PARENT; the only MOST SPECIAL that is not bare; the first in ALL FACES; 5. Then 2; 3. */
    private static void methodsMet() {
        String user = "class b.B { void f(a.Q q, a.F f) { q.m(); f.f(); a.Q.t(); a.F.w(); } }";
        meets(LIB, user, "open class a.P { own int m() { return 1; } open static int t() { return 1; } } open class a.Q is a.P { } open face a.F { own int f() { return 1; } own static int w() { return 1; } }", "7 a.Q.m()int: 2 a.P.m()int [a.Q a.P]", "8 a.F.f()int: 2 a.F.f()int [a.F]", "9 a.Q.t()int: 0 a.P.t()int [a.Q a.P]", "10 a.F.w()int: 2 a.F.w()int [a.F]");
        // 2 is ahead of 3; what is static is found as well.
        meets(LIB, user, "open class a.P { own static int m() { return 1; } own int t() { return 1; } } open class a.Q is a.P { } open face a.F { own static int f() { return 1; } own int w() { return 1; } }", "7 a.Q.m()int: 2 a.P.m()int [a.Q a.P]", "8 a.F.f()int: 2 a.F.f()int [a.F]", "9 a.Q.t()int: 2 a.P.t()int [a.Q a.P]", "10 a.F.w()int: 2 a.F.w()int [a.F]");
        meets(LIB, user, "open class a.P { open static int m() { return 1; } open int t() { return 1; } } open class a.Q is a.P { } open face a.F { static int f() { return 1; } int w() { return 1; } }", "7 a.Q.m()int: 3 a.P.m()int [a.Q a.P]", "8 a.F.f()int: 3 a.F.f()int [a.F]", "9 a.Q.t()int: 3 a.P.t()int [a.Q a.P]", "10 a.F.w()int: 3 a.F.w()int [a.F]");
        // Another RESULT, other PARAMS: none.
        meets(LIB, user, "open class a.Q { open void m() { } open static int t(int p) { return 1; } } open face a.F { z.Any f(); static void w() { } }", "7 a.Q.m()int: 5  [a.Q z.Any]", "8 a.F.f()int: 5  [a.F]", "9 a.Q.t()int: 5  [a.Q z.Any]", "10 a.F.w()int: 5  [a.F]");
        // Own and static ones of FACES are found by none but as the face's own.
        meets(LIB, user, "open face a.G { own int m() { return 1; } static int t() { return 1; } own int f() { return 1; } static int w() { return 1; } } open class a.Q as a.G { } open face a.F as a.G { }", "7 a.Q.m()int: 5  [a.Q z.Any a.G]", "8 a.F.f()int: 5  [a.F a.G]", "9 a.Q.t()int: 5  [a.Q z.Any a.G]", "10 a.F.w()int: 5  [a.F a.G]");
        // A class's own by 9, found in a face: not static.
        meets(LIB, user, "open face a.G { int t() { return 1; } int w() { return 1; } } open class a.Q as a.G { } open face a.F as a.G { }", "9 a.Q.t()int: 3 a.G.t()int [a.Q z.Any a.G]", "10 a.F.w()int: 3 a.G.w()int [a.F a.G]");
        // The only MOST SPECIAL one that is not bare ahead of the first; two of them: the first of all.
        meets(LIB, user, "open face a.G { int m(); } open face a.H { int m() { return 1; } } open face a.I { int m() { return 1; } } open bare class a.Q as a.G, a.H { } open face a.F as a.G, a.H, a.I { int f(); }", "7 a.Q.m()int: 0 a.H.m()int [a.Q z.Any a.G a.H]");
        meets(LIB, user, "open face a.G { int m(); } open face a.H { int m() { return 1; } } open face a.I { int m() { return 1; } } open bare class a.Q as a.G, a.H, a.I { }", "7 a.Q.m()int: 0 a.G.m()int [a.Q z.Any a.G a.H a.I]");
        meets(LIB, user, "open face a.G { int m(); } open bare class a.P { } open bare class a.Q is a.P as a.G { }", "7 a.Q.m()int: 0 a.G.m()int [a.Q a.P z.Any a.G]");
        // A PARENT's ahead of a face's, bare or not.
        meets(LIB, user, "open face a.G { int m() { return 1; } } open bare class a.P { open bare int m(); } open bare class a.Q is a.P as a.G { }", "7 a.Q.m()int: 0 a.P.m()int [a.Q a.P]");
    }

    /** 11, 12: as 7, 8, then what is called: CLASH 3, BARE 6. */
    private static void supersMet() {
        String old = "open class a.P { open int m() { return 1; } } open face a.F { int d() { return 1; } }";
        String user = "class b.B is a.P as a.F { int f() { return super.m() + a.F.super.d(); } }";
        meets(old, user, old, "11 a.P.m()int: 0 a.P.m()int [a.P]", "12 a.F.d()int: 0 a.F.d()int [a.F]");
        meets(old, user, "open class a.P { } open face a.F { }", "11 a.P.m()int: 5  [a.P z.Any]", "12 a.F.d()int: 5  [a.F]");
        meets(old, user, "open class a.P { own int m() { return 1; } } open face a.F { own int d() { return 1; } }", "11 a.P.m()int: 2  [a.P]", "12 a.F.d()int: 2  [a.F]");
        meets(old, user, "open class a.P { open static int m() { return 1; } } open face a.F { static int d() { return 1; } }", "11 a.P.m()int: 3  [a.P]", "12 a.F.d()int: 3  [a.F]");
        meets(old, user, "open bare class a.P { open bare int m(); } open face a.F { int d(); }", "11 a.P.m()int: 6  [a.P]", "12 a.F.d()int: 6  [a.F]");
        meets(old, user, "open class a.R { open int m() { return 1; } } open class a.P is a.R { } open face a.G { int d() { return 1; } } open face a.F as a.G { }", "11 a.P.m()int: 0 a.R.m()int [a.P a.R]", "12 a.F.d()int: 0 a.G.d()int [a.F a.G]");
        String two = "open face a.G { int m() { return 1; } int d() { return 1; } } open face a.H { int m() { return 1; } int d() { return 1; } } open bare class a.P as a.G, a.H { } open face a.F as a.G, a.H { }";
        meets(old, user, two, "11 a.P.m()int: 3  [a.P z.Any a.G a.H]", "12 a.F.d()int: 3  [a.F a.G a.H]");
        String one = two.replace("face a.H { int m() { return 1; } int d() { return 1; } }", "face a.H { int m(); int d(); }");
        meets(old, user, one, "11 a.P.m()int: 0 a.G.m()int [a.P z.Any a.G a.H]", "12 a.F.d()int: 0 a.G.d()int [a.F a.G a.H]");
        String none = one.replace("face a.G { int m() { return 1; } int d() { return 1; } }", "face a.G { int m(); int d(); }");
        meets(old, user, none, "11 a.P.m()int: 6  [a.P z.Any a.G a.H]", "12 a.F.d()int: 6  [a.F a.G a.H]");
        meets(old, user, "open face a.P { int m(); } open class a.F { }", "11 a.P.m()int: 3  []", "12 a.F.d()int: 3  []");
    }

    /** 15: (ahead of 2) 11 if C is neither z.Ill nor its HEIR. */
    private static void catchesMet() {
        String old = "open class a.E is z.Ill { }";
        String user = "class b.B { void f() { try { } catch (a.E e) { } try { } catch (z.Ill e) { } } }";
        meets(old, user, "open class a.X { }", "15 a.E: 1  []", "15 z.Ill: 0  []");
        meets(old, user, "open class a.E { }", "15 a.E: 11  []");
        meets(old, user, "class a.E { }", "15 a.E: 11  []");
        meets(old, user, "open face a.E { }", "15 a.E: 11  []");
        meets(old, user, "class a.E is z.Ill { }", "15 a.E: 2  []");
        meets(old, user, "open class a.X is z.Ill { } open class a.E is a.X { }", "15 a.E: 0  []");
    }

    /** 16: nothing is LOADED, not even D: 17, if THE FIELD of NAME and int of C is not there, or no CONSTANT of that value. */
    private static void copies() {
        String old = "open class a.P { open static final int k = 5; } open class a.Q is a.P { }";
        String user = "class b.B is a.Q { int f() { return k + a.Q.k; } }";
        String[][] all = {{old, "0"}, {"open class a.P { } open class a.Q is a.P { }", "17"}, {"open class a.P { open static final int k = 4 + 1; } open class a.Q is a.P { }", "0"}, {"open class a.P { open static final int k = 6; } open class a.Q is a.P { }", "17"}, {"open class a.P { open static final int k; } open class a.Q is a.P { }", "17"},
            {"open class a.P { open static int k = 5; } open class a.Q is a.P { }", "17"}, {"open class a.P { open final int k = 5; } open class a.Q is a.P { }", "17"}, {"class a.P { own static final int k = 5; } class a.Q is a.P { }", "0"}, {"open class a.P { open static final int k = 5; } open class a.Q is a.P { z.Any k; }", "0"},
            {"open class a.P { open static final int k = 5; } open class a.Q is a.P { own static final int k = 6; }", "17"}, {"open class a.P { open static final int k = 5; }", "17"}, {"final class a.Q { static final int k = 5; }", "0"}, {"face a.Q { int k = 5; }", "0"}, {"face a.F { int k = 5; } class a.P { static final int k = 6; } class a.Q is a.P as a.F { }", "0"}};
        for (String[] each : all) {
            Check c = world(old, user, each[0]);
            Check.due("16 with " + each[0], c.meet(1, 0, "16 a.Q.k=5"), each[1] + "  []");
            Check.due("touch with " + each[0], c.x.touch(1, 0, c.useOf(1, 0, "16 a.Q.k=5")), Integer.parseInt(each[1]));
            Check.due("nothing is LOADED", c.x.told(4), 0);
            Check.due("stale with " + each[0], c.x.stale() > 0 ? 17 : 0, Integer.parseInt(each[1]));
        }
        // A value of 0 is a CONSTANT's, or none.
        String[] now = {"open static final int k = 0;", "open static final int k = 3 - 3;", "open static final int k;", "open static int k = 0;", "open final int k = 0;", "open static int k;", "open static final int k = t(); open static int t() { return 0; }", "open static final z.Any k = null;", ""};
        for (int i = 0; i < now.length; i++) {
            Check zero = world("open class a.P { open static final int k = 0; }", "class b.B { int f() { return a.P.k; } }", "open class a.P { " + now[i] + " }");
            Check.due("16 with " + now[i], zero.meet(1, 0, "16 a.P.k=0"), (i < 2 ? 0 : 17) + "  []");
        }
        // Its own class's, by a NAME alone, when the PARENT is not there.
        Check c = world(old, user, "open class a.X { }");
        Check.due("16 of D", c.meet(1, 0, "16 b.B.k=5"), "17  []");
    }

    /** 17: the second: 1; LOADED; 0 for a face; else the first: 1; LOADED; 11 if it is not the second or its HEIR (no 2's here). */
    private static void fitsMet() {
        String old = "open class a.P { } open class a.Q is a.P { }";
        String user = "class b.B { void f(a.Q q) { let a.P p = q; } }";
        String[][] all = {{"open class a.Q { }", "1"}, {"open class a.P { }", "1"}, {"open face a.P { }", "0"}, {"face a.P { } class a.Q { }", "0"}, {"class a.P { } class a.Q is a.P { }", "0"}, {"open class a.P { } open class a.Q { }", "11"}, {"open class a.P { } open face a.Q { }", "11"}, {"open class a.P is a.Q { } open class a.Q { }", "11"},
            {"open class a.P { } open class a.R is a.P { } open class a.Q is a.R { }", "0"}, {"open class a.X { }", "1"}};
        for (String[] each : all) {
            meets(old, user, each[0], "17 a.Q>a.P: " + each[1] + "  []");
        }
        Check c = world(old, user, "open face a.P { }");
        Check.due("for a face the first is not asked", c.x.touch(1, 0, 0), 0);
        Check.due("events", c.events(), "301 201");
    }

    /** What it meets when its class is the first one that is LOADED: what the machine has, stays out of it. */
    private static void firstThatIsLoaded() {
        Check c = new Check();
        c.stand(1, "open class b.H { }");
        c.stand(0, "class a.A is b.H with a.N { own static int x; static void m() { } } class a.N in a.A { static void g() { a.A.x = 1; } } class a.O { static void h() { } }");
        int u = c.useOf(0, 0, "6 a.A.x:int");
        Check.due("meet", c.x.meet(0, 0, u), 0);
        Check.due("nothing was LOADED by it", c.x.told(4), 0);
        Check.due("run", c.run("a.N.g"), 1);
        int events = c.x.told(4);
        Check.due("meet", c.x.meet(0, 0, u), 0);
        Check.due("broken", c.x.broken(), 0);
        Check.due("stale", c.x.stale(), 0);
        Check.due("no events", c.x.told(4), events);
        Check.due("tell", c.x.tell(0, 0, u), 11);
        Check.due("fresh", c.x.fresh(), 3);
    }

    /** NEST: H is there when it is LOADED without failure (D's is asked ahead of K's); when D is K none is asked. */
    private static void nestsAsked() {
        String texts = "class a.H with a.D, a.E { } class a.D in a.H { own static int x; int f() { return x + a.E.y + a.K.s + a.L.t; } } class a.E in a.H { own static int y; int f() { return a.L.t; } } ";
        String user = texts + "class a.Z { int f() { return a.K.s + a.L.t; } }";
        Check c = new Check();
        c.stand(1, "open class a.K { open static int s; } open class a.L { open static int t; }");
        c.stand(0, user);
        c.make(1, "open class a.K in a.G { own static int s; } class a.G with a.K { } open class a.L { own static int t; }");
        c.x.pick(1, 1);
        // 2 a.H, 3 a.D, 4 a.E, 5 a.Z, 6 a.K, 7 a.G, 8 a.L
        String[][] all = {{"0", "5 a.D.x:int", "0", "301"}, {"0", "5 a.E.y:int", "0", "301 401 201"}, {"0", "5 a.K.s:int", "2", "301 601 201 701"}, {"0", "5 a.L.t:int", "2", "301 801 201"}};
        for (String[] each : all) {
            c.x.fresh();
            Check.due("touch of " + each[1], c.x.touch(0, 0, c.useOf(0, 0, each[1])), Integer.parseInt(each[2]));
            Check.due("events by " + each[1], c.events(), each[3]);
        }
        c.x.fresh();
        int last = c.x.uses(0, 0) - 1;
        Check.due("of no NEST", c.x.use(0, 0, last, 1) * 100 + c.x.touch(0, 0, last), 302);
        Check.due("nothing more is LOADED", c.events(), "501 801");
        c.x.fresh();
        Check.due("of no NEST, to one in a NEST", c.x.touch(0, 0, last - 1), 2);
        Check.due("that one's is LOADED", c.events(), "501 601 701");
        // H fails: each is its own NEST.
        Check d = new Check();
        d.stand(1, "open class b.P { }");
        d.stand(0, texts.replace("class a.H", "class a.H is b.P").replace(" + a.K.s + a.L.t", "").replace("a.L.t", "y"));
        Check.due("touch", d.x.touch(0, 0, d.useOf(0, 0, "5 a.E.y:int")), 0);
        d.x.pick(1, LinkHouse.NONE);
        Check.due("touch", d.x.touch(0, 0, d.useOf(0, 0, "5 a.E.y:int")), 2);
        Check.due("once", d.events(), "301 401 205");
        Check.due("D is K all the same", d.x.touch(0, 0, d.useOf(0, 0, "5 a.D.x:int")), 0);
        Check.due("once", d.events(), "301 401 205");
    }

    /** NONE: the build does not stand there, or the class is another library's. */
    private static void otherLibrarys() {
        Check c = new Check();
        c.stand(2, "class c.A is z.Any { } class c.B is z.Any { }");
        Check.due("meet", c.x.meet(2, 0, 0), 0);
        Check.due("touch", c.x.touch(2, 0, 1), 0);
        c.stand(1, "class c.B { }");
        Check.due("its own", c.x.meet(2, 0, 0), 0);
        Check.due("another library's", c.x.meet(2, 0, 1), LinkHouse.NONE);
        Check.due("another library's", c.x.touch(2, 0, 1), LinkHouse.NONE);
        Check.due("there is none", c.x.meet(2, 0, 2), LinkHouse.BAD);
        Check.due("there is none", c.x.touch(2, 0, 2), LinkHouse.BAD);
        c.x.pick(2, LinkHouse.NONE);
        Check.due("it does not stand", c.x.meet(2, 0, 0), LinkHouse.NONE);
        Check.due("it does not stand", c.x.touch(2, 0, 0), LinkHouse.NONE);
        Check.due("there is none", c.x.meet(2, 0, 2), LinkHouse.BAD);
        c.make(2, "class c.A is z.Any { }");
        c.x.pick(2, 1);
        Check.due("another build stands", c.x.meet(2, 0, 0), LinkHouse.NONE);
        Check.due("this one", c.x.meet(2, 1, 0), 0);
    }

    /** Of the latest meet() that was neither BAD nor NONE: of no bytes, and nothing looked in, if it looked for none. */
    private static void metAndLooked() {
        Check c = new Check();
        Check.due("ahead of any", c.x.met(), 0);
        Check.due("ahead of any", c.x.looked(0), LinkHouse.BAD);
        c.stand(0, "open class a.P { open int i; open int m(int p, a.P q) { return i; } } class a.Q is a.P { int f() { return i + m(1, this) + super.m(2, null); } z.Any g() { return (a.P) null; } }");
        int get = c.useOf(0, 0, "3 a.Q.i:int");
        Check.due("meet", c.x.meet(0, 0, get), 0);
        Check.due("met", c.x.met(), 9);
        Check.due("met", c.out(), "a.P.i:int");
        Check.due("OUT is told by others", c.x.name(0), 5);
        Check.due("met again", c.x.met(), 9);
        Check.due("looked", c.x.looked(0) * 10 + c.x.looked(1), 32);
        Check.due("no more", c.x.looked(2), LinkHouse.BAD);
        Check.due("BAD", c.x.meet(0, 0, 99), LinkHouse.BAD);
        Check.due("met stays", c.x.met(), 9);
        Check.due("looked stays", c.x.looked(1), 2);
        Check.due("a CAST looks for none", c.meet(0, 0, "13 a.P"), "0  []");
        Check.due("of two params", c.meet(0, 0, "7 a.Q.m(int,a.P)int"), "0 a.P.m(int,a.P)int [a.Q a.P]");
        Check.due("super", c.meet(0, 0, "11 a.P.m(int,a.P)int"), "0 a.P.m(int,a.P)int [a.P]");
        c.make(1, "class b.A { } class b.B { }");
        c.make(0, "class b.C { } class a.P { } class b.D { }");
        Check.due("meet", c.x.meet(0, 0, get), 0);
        c.x.pick(0, 1);
        Check.due("NONE", c.x.meet(0, 0, get), LinkHouse.NONE);
        Check.due("looked: as THE WORLD was", c.x.looked(0) * 10 + c.x.looked(1), 32);
        Check.due("met", c.x.met(), 9);
    }

    /** In order of libraries; none any more behind pick(), and choose() that is not NONE. */
    private static void brokenList() {
        Check c = new Check();
        Check.due("none", c.x.brokenAt(0, 0), LinkHouse.BAD);
        c.stand(3, "open class d.D { open int x; open int y; }");
        c.stand(4, "class e.E { int f(d.D v) { return v.x + v.y; } }");
        c.stand(0, "class a.A { int f(d.D v) { return v.y; } } class a.B is d.D { }");
        Check.due("none", c.x.broken(), 0);
        Check.due("none", c.x.brokenAt(0, 0), LinkHouse.BAD);
        c.make(3, "open final class d.D { open int x; }");
        c.x.pick(3, 1);
        Check.due("none told yet", c.x.brokenAt(0, 0), LinkHouse.BAD);
        Check.due("broken", c.x.broken(), 4);
        int[][] due = {{0, 0, 4}, {0, 1, 3}, {0, 2, 3}, {4, 1, 4}};
        for (int i = 0; i < 4; i++) {
            for (int what = 0; what < 3; what++) {
                Check.due("of the " + i + "th " + what, c.x.brokenAt(i, what), due[i][what]);
            }
        }
        Check.due("no fifth", c.x.brokenAt(4, 0), LinkHouse.BAD);
        Check.due("broken once more", c.x.broken(), 4);
        Check.due("no fifth", c.x.brokenAt(4, 0), LinkHouse.BAD);
        Check.due("the fourth", c.x.brokenAt(3, 0), 4);
        Check.due("no such", c.x.brokenAt(0, 3), LinkHouse.BAD);
        c.make(1, "");
        c.x.fresh();
        c.x.stale();
        c.x.meet(0, 0, 0);
        c.x.touch(0, 0, 0);
        Check.due("these leave it", c.x.brokenAt(3, 0), 4);
        Check.due("a pick that is BAD", c.x.pick(3, 2), LinkHouse.BAD);
        Check.due("leaves it", c.x.brokenAt(3, 2), 4);
        Check.due("a pick of the same", c.x.pick(3, 1), 1);
        Check.due("ends it", c.x.brokenAt(0, 0), LinkHouse.BAD);
        Check.due("broken again", c.x.broken(), 4);
        Check.due("a pick of none", c.x.pick(2, LinkHouse.NONE), LinkHouse.NONE);
        Check.due("ends it", c.x.brokenAt(0, 0), LinkHouse.BAD);
        c.x.broken();
        Check.due("choose", c.x.choose(), 2);
        Check.due("ends it", c.x.brokenAt(0, 0), LinkHouse.BAD);
        c.x.pick(3, 1);
        c.make(4, "class e.E is z.Any { int f(d.D v) { return v.x; } } final class d.D { }");
        c.make(3, "class d.D { }");
        Check.due("none left of it", c.x.broken(), 4);
    }

    /** USES 16 of all builds in THE WORLD, but those of classes that are another library's there. */
    private static void staleCount() {
        Check c = new Check();
        Check.due("of no builds", c.x.stale(), 0);
        c.stand(0, "open class a.A { open static final int k = 1; open static final int l = 2; open static final int n = 3; }");
        c.stand(1, "class b.B { static final int p = a.A.k; int f() { return p + a.A.l; } } class b.C { int f() { return a.A.k + a.A.n; } }");
        c.stand(2, "class c.C { int f() { return a.A.n; } } class b.C { int f() { return a.A.l; } }");
        Check.due("none", c.x.stale(), 0);
        c.make(0, "open class a.A { open static final int k = 1; open static final int l = 7; open static int n = 3; }");
        c.x.pick(0, 1);
        Check.due("l in b.B, n in b.C, n in c.C", c.x.stale(), 3);
        Check.due("broken counts none of them", c.x.broken(), 0);
        c.x.pick(1, LinkHouse.NONE);
        Check.due("n in c.C, l in its own b.C", c.x.stale(), 2);
        c.x.pick(0, LinkHouse.NONE);
        Check.due("the same", c.x.stale(), 2);
        c.x.pick(1, 0);
        Check.due("all but b.B.p and the hidden one", c.x.stale(), 5);
        c.x.pick(2, LinkHouse.NONE);
        Check.due("without c.C", c.x.stale(), 4);
        Check d = new Check();
        d.stand(3, "open class d.D { open static final int k = 1; }");
        d.stand(0, "class a.A { int f() { return d.D.k; } }");
        d.stand(4, "class e.E { int f() { return d.D.k + d.D.k; } }");
        d.x.pick(3, LinkHouse.NONE);
        Check.due("of the first library and of the last", d.x.stale(), 2);
    }

    /** The greatest build of library 0 first, then of 1, and so on; how many were tried with that. */
    private static void chosen() {
        Check c = new Check();
        Check.due("of no builds one is tried", c.x.choose(), 1);
        for (int i = 0; i < 3; i++) {
            c.make(0, "open class a.A" + i + " { }");
            c.make(4, "open class e.A" + i + " { }");
        }
        Check.due("the greatest", c.x.choose(), 1);
        Check.due("picked", c.x.picked(0) * 10 + c.x.picked(4), 22);
        Check.due("none of what has none", c.x.picked(2), LinkHouse.NONE);
        for (int want = 0; want < 9; want++) {
            Check d = new Check();
            int a = 2 - want / 3;
            int e = 2 - want % 3;
            for (int i = 0; i < 3; i++) {
                d.make(0, "open class a.A { " + (i == a ? "open static int x; " : "") + "}");
                d.make(4, "open class e.A { " + (i == e ? "open static int y; " : "") + "}");
            }
            d.x.pick(0, a);
            d.x.pick(4, e);
            d.stand(2, "class c.C { int f() { return a.A.x + e.A.y; } }");
            d.x.pick(0, LinkHouse.NONE);
            d.x.pick(4, LinkHouse.NONE);
            d.x.pick(2, LinkHouse.NONE);
            Check.due("tried", d.x.choose(), want + 1);
            Check.due("picked", d.x.picked(0) * 100 + d.x.picked(2) * 10 + d.x.picked(4), a * 100 + e);
            Check.due("not broken", d.x.broken(), 0);
            d.make(2, "class c.C { int f() { return c.C.g(); } static int g() { return 1; } } class a.A { } ");
            Check.due("tried again", d.x.choose(), 1);
            Check.due("the last build of 2 is greater", d.x.picked(2), 1);
        }
        Check none = new Check();
        none.stand(0, "open class a.A { open static int x; }");
        none.make(1, "class b.B { int f() { return a.A.x; } }");
        none.make(0, "open class a.A { }");
        Check.due("one of two", none.x.choose(), 2);
        none.make(1, "open class a.A { }");
        none.x.pick(0, 0);
        Check.due("worlds in order", none.x.choose(), 1);
        Check.due("picked", none.x.picked(0) * 10 + none.x.picked(1), 11);
        Check e = new Check();
        e.stand(1, "open class a.A { open static int x; }");
        e.stand(0, "class b.B { int f() { return a.A.x; } }");
        e.x.pick(1, LinkHouse.NONE);
        e.make(1, "");
        e.stand(3, "class a.A { }");
        e.make(3, "open class d.D { }");
        e.x.pick(1, 1);
        Check.due("library 1's first", e.x.choose(), 3);
        Check.due("picked", e.x.picked(1) * 10 + e.x.picked(3), 1);
        Check full = new Check();
        int[] each = {4, 3, 3, 3, 3};
        for (int lib = 0; lib < 5; lib++) {
            for (int i = 0; i < each[lib]; i++) {
                full.make(lib, lib == 0 ? "class a.A { }" : "");
            }
        }
        Check.due("sixteen builds", full.x.choose(), 1);
        Check.due("the greatest of all", full.x.picked(0) * 10000 + full.x.picked(1) * 1000 + full.x.picked(2) * 100 + full.x.picked(3) * 10 + full.x.picked(4), 32222);
        Check last = new Check();
        last.stand(4, "open class e.E { open static int x; }");
        last.make(4, "open class e.E { }");
        last.make(4, "open class e.E { }");
        for (int lib = 1; lib < 4; lib++) {
            for (int i = 0; i < 3; i++) {
                last.make(lib, "");
            }
        }
        last.make(0, "class a.A { int f() { return e.E.x; } }");
        for (int i = 1; i < 4; i++) {
            last.x.pick(4, 0);
            last.make(0, "class a.A { int f() { return e.E.x; } }");
        }
        Check.due("the last library changes first", last.x.choose(), 3);
        Check.due("picked", last.x.picked(4), 0);
    }
}
