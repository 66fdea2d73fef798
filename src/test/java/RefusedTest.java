import java.lang.reflect.InvocationTargetException;
import java.lang.reflect.Method;

/**
 * "What is refused changes nothing. BAD is looked at first": each refused call is made of a house in the midst of things,
 * and behind it the house answers as its twin does that was not called so.
 */
public final class RefusedTest {
    private static final int NONE = LinkHouse.NONE;
    private static final int FULL = LinkHouse.FULL;
    private static final int BAD = LinkHouse.BAD;
    private static final int MIN = Integer.MIN_VALUE;
    private static final int MAX = Integer.MAX_VALUE;
    /** Stands in CALLS for the number whose bounds the row tells. */
    private static final int HERE = 77_777;

    private static final String OLD = "open class a.A{open int x=7;open static int s;open z.Any f(int p){return this;}}";
    private static final String NEW = "open class a.A{open int y;open a.A f(int p){return this;}}";
    private static final String USER = "class b.B{static a.A go(){out 5;out 6;let a.A v=new a.A();v.x=9;v.f(1);a.A.s=3;return v;}}class b.C{}";
    private static final String OTHER = "class c.C{int g(a.A v){return v.y;}}class b.B{static int k=a.A.s0;}";
    private static final String LEFT = "class d.D{}  ";

    public static void main(String[] args) throws ReflectiveOperationException {
        numbersOutOfBounds();
        badIsLookedAtFirst();
        noneAndFull();
        runThatIsNone();
        fullTape();
        Check.end("RefusedTest");
    }

    /** A house whose calls are counted. */
    private static final class House {
        final LinkHouse x = new LinkHouse();
        int calls = 0;

        int call(String name, int... numbers) throws ReflectiveOperationException {
            calls++;
            Class<?>[] types = new Class<?>[numbers.length];
            Object[] values = new Object[numbers.length];
            for (int i = 0; i < numbers.length; i++) {
                types[i] = int.class;
                values[i] = numbers[i];
            }
            try {
                return (int) LinkHouse.class.getMethod(name, types).invoke(x, values);
            } catch (InvocationTargetException e) {
                throw new IllegalStateException(told(name, numbers), e);
            }
        }

        void tape(String bytes) throws ReflectiveOperationException {
            call("cut", call("told", 6));
            for (int at = 0; at < bytes.length(); at += 20) {
                int[] word = new int[5];
                for (int k = 0; k < 20 && at + k < bytes.length(); k++) {
                    word[k / 4] |= bytes.charAt(at + k) << (24 - 8 * (k % 4));
                }
                call("feed", word);
            }
            call("cut", (20 - bytes.length() % 20) % 20);
        }

        int make(int lib, String text) throws ReflectiveOperationException {
            tape(text);
            return call("make", lib);
        }

        String out() throws ReflectiveOperationException {
            StringBuilder s = new StringBuilder();
            int n = call("size");
            for (int i = 0; i < n; i++) {
                s.append((char) call("octet", i));
            }
            return s.append(call("octet", n)).toString();
        }
    }

    private static String told(String name, int... numbers) {
        StringBuilder s = new StringBuilder(name).append("(");
        for (int i = 0; i < numbers.length; i++) {
            s.append(i == 0 ? "" : ", ").append(numbers[i]);
        }
        return s.append(")").toString();
    }

    /**
     * Two builds of library 0, one each of 1 and 2 (whose second class is hidden by library 1's), all in THE WORLD; a run,
     * a FAULT, DIFFERENCES, USES that are broken, what was met, OUT, and a rest on THE TAPE.
     */
    private static House amid() throws ReflectiveOperationException {
        House h = new House();
        Check.due("old", h.make(0, OLD), 0);
        Check.due("new", h.make(0, NEW), 1);
        h.call("pick", 0, 1);
        Check.due("other", h.make(2, OTHER.replace("s0", "y").replace("a.A.y", "new a.A().y")), 0);
        h.call("pick", 0, 0);
        Check.due("user", h.make(1, USER), 0);
        h.call("pick", 1, 0);
        h.call("pick", 2, 0);
        Check.due("differences", h.call("differ", 0, 0, 1), 5);
        Check.due("broken", h.call("broken"), 1);
        Check.due("a fault", h.make(3, "class $"), -11);
        h.tape("b.B.go");
        Check.due("run", h.call("run"), 1);
        Check.due("meet", h.call("meet", 1, 0, 2), 0);
        Check.due("shape", h.call("shape", 0, 0, 0, 1), "open static int s".length());
        h.tape(LEFT);
        return h;
    }

    /** All that can be asked of a house, and what it does next. */
    private static String asked(House h) throws ReflectiveOperationException {
        StringBuilder s = new StringBuilder(h.out());
        for (int what = 0; what <= 7; what++) {
            s.append(" ").append(h.call("told", what));
        }
        s.append(" value ").append(h.call("value")).append(" place ").append(h.call("place"));
        list(h, s, "number", 3);
        list(h, s, "event", h.call("told", 4) + 1);
        list(h, s, "classOf", 3);
        list(h, s, "looked", 3);
        list(h, s, "state", 7);
        list(h, s, "builds", 5);
        list(h, s, "picked", 5);
        s.append(" fields ").append(h.call("fieldOf", 1, 0)).append(" ").append(h.call("fieldOf", 1, 1));
        for (int i = 0; i < 6; i++) {
            s.append(" change");
            for (int what = 0; what < 5; what++) {
                s.append(" ").append(h.call("change", i, what));
            }
        }
        for (int i = 0; i < 2; i++) {
            s.append(" broken");
            for (int what = 0; what < 3; what++) {
                s.append(" ").append(h.call("brokenAt", i, what));
            }
        }
        s.append(" met ").append(h.call("met")).append(" ").append(h.out());
        s.append(" text ").append(h.call("text", 0, 1)).append(" text ").append(h.call("make", 4));
        s.append(" uses ").append(h.call("uses", 1, 0)).append(" ").append(h.call("members", 0, 0, 0)).append(" ").append(h.call("classes", 1, 0));
        return s.toString();
    }

    private static void list(House h, StringBuilder s, String name, int n) throws ReflectiveOperationException {
        s.append(" ").append(name);
        for (int i = 0; i < n; i++) {
            s.append(" ").append(h.call(name, i));
        }
    }

    /** What it does with what was left on THE TAPE, and in THE WORLD. */
    private static String next(House h) throws ReflectiveOperationException {
        StringBuilder s = new StringBuilder();
        s.append("make ").append(h.call("make", 3)).append(" place ").append(h.call("place"));
        s.append(" head ").append(h.call("shape", 3, 0, 0, NONE)).append(" ").append(h.out());
        h.tape("b.B.go");
        s.append(" run ").append(h.call("run")).append(" value ").append(h.call("value")).append(" broken ").append(h.call("broken"));
        s.append(" stale ").append(h.call("stale")).append(" choose ").append(h.call("choose"));
        return s.toString();
    }

    /** Both houses answer the same; no house is called too often. */
    private static void same(String what, House h, House twin) throws ReflectiveOperationException {
        Check.due("next behind " + what, next(h), next(twin));
        Check.due("calls behind " + what + ": " + h.calls, h.calls <= 512 ? 1 : 0, 1);
    }

    private static String twinAsked;
    private static String twinNext;

    /** A house that was called so answers as one that was not. */
    private static void unchanged(String what, House h, House other) throws ReflectiveOperationException {
        if (twinAsked == null) {
            twinAsked = asked(amid());
            twinNext = next(amid());
        }
        Check.due("asked behind " + what, asked(h), twinAsked);
        Check.due("next behind " + what, next(other), twinNext);
        Check.due("calls behind " + what + ": " + h.calls, h.calls <= 512 && other.calls <= 512 ? 1 : 0, 1);
    }

    private static void refused(int due, String name, int... numbers) throws ReflectiveOperationException {
        House h = amid();
        House other = amid();
        Check.due(told(name, numbers), h.call(name, numbers), due);
        Check.due(told(name, numbers), other.call(name, numbers), due);
        unchanged(told(name, numbers), h, other);
    }

    /** A call's numbers, HERE the one that is tried; the least and the greatest that it may be here. */
    private static void bounds(String name, int least, int greatest, int... numbers) throws ReflectiveOperationException {
        int at = 0;
        for (int i = 0; i < numbers.length; i++) {
            at = numbers[i] == HERE ? i : at;
        }
        for (int n : new int[] {least, greatest}) {
            int[] told = numbers.clone();
            told[at] = n;
            Check.due(told(name, told) + " is allowed", amid().call(name, told) == BAD ? BAD : 0, 0);
        }
        boolean none = name.equals("pick") && at == 1 || name.equals("shape") && at == 3;
        int due = name.equals("number") || name.equals("fieldOf") ? 0 : BAD;
        House h = amid();
        House other = amid();
        for (int n : new int[] {MIN, least - 3, least - 2, least - 1, greatest + 1, greatest + 2, MAX}) {
            if (n < least || n > greatest) {
                int[] told = numbers.clone();
                told[at] = n;
                if (!(none && n == NONE)) {
                    Check.due(told(name, told), h.call(name, told), due);
                    Check.due(told(name, told), other.call(name, told), due);
                }
            }
        }
        unchanged(told(name, numbers), h, other);
    }

    private static void numbersOutOfBounds() throws ReflectiveOperationException {
        bounds("cut", 0, LEFT.length(), HERE);
        bounds("splice", 0, LEFT.length() - 3, HERE, 0, 3);
        bounds("splice", 0, LEFT.length() - 5, 2, HERE, 3);
        bounds("splice", 0, LEFT.length(), 0, 0, HERE);
        bounds("splice", 0, LEFT.length() - 4, 4, 0, HERE);
        bounds("text", 0, 2, HERE, 0);
        bounds("text", 0, 1, 0, HERE);
        bounds("octet", 0, 16, HERE);
        bounds("make", 0, 4, HERE);
        bounds("builds", 0, 4, HERE);
        bounds("pick", 0, 4, HERE, NONE);
        bounds("pick", 0, 1, 0, HERE);
        bounds("picked", 0, 4, HERE);
        bounds("classes", 0, 2, HERE, 0);
        bounds("classes", 0, 1, 0, HERE);
        bounds("members", 0, 2, HERE, 0, 0);
        bounds("members", 0, 1, 0, HERE, 0);
        bounds("members", 0, 1, 1, 0, HERE);
        bounds("shape", 0, 2, HERE, 0, 0, NONE);
        bounds("shape", 0, 1, 0, HERE, 0, NONE);
        bounds("shape", 0, 1, 1, 0, HERE, NONE);
        bounds("shape", 0, 3, 0, 0, 0, HERE);
        bounds("uses", 0, 2, HERE, 0);
        bounds("uses", 0, 1, 0, HERE);
        bounds("use", 1, 2, HERE, 0, 0, 0);
        bounds("use", 0, 0, 1, HERE, 0, 0);
        bounds("use", 0, 4, 1, 0, HERE, 0);
        bounds("use", 0, 1, 1, 0, 0, HERE);
        bounds("tell", 1, 2, HERE, 0, 0);
        bounds("tell", 0, 0, 1, HERE, 0);
        bounds("tell", 0, 4, 1, 0, HERE);
        bounds("meet", 1, 2, HERE, 0, 0);
        bounds("meet", 0, 0, 1, HERE, 0);
        bounds("meet", 0, 4, 1, 0, HERE);
        bounds("looked", 0, 0, HERE);
        bounds("brokenAt", 0, 0, HERE, 0);
        bounds("brokenAt", 0, 2, 0, HERE);
        bounds("differ", 0, 2, HERE, 0, 0);
        bounds("differ", 0, 1, 0, HERE, 0);
        bounds("differ", 0, 1, 0, 0, HERE);
        bounds("change", 0, 4, HERE, 0);
        bounds("change", 0, 4, 0, HERE);
        bounds("word", 0, 2, HERE, 0, 0);
        bounds("word", 0, 1, 0, HERE, 0);
        bounds("word", 0, 1, 0, 0, HERE);
        bounds("weave", 0, 2, HERE, 0, 0);
        bounds("weave", 0, 1, 0, HERE, 1);
        bounds("weave", 0, 1, 0, 0, HERE);
        bounds("touch", 1, 2, HERE, 0, 0);
        bounds("touch", 0, 0, 1, HERE, 0);
        bounds("touch", 0, 4, 1, 0, HERE);
        bounds("told", 0, 7, HERE);
        bounds("number", 0, 1, HERE);
        bounds("event", 0, 7, HERE);
        bounds("name", 0, 5, HERE);
        bounds("state", 0, 5, HERE);
        bounds("classOf", 1, 1, HERE);
        bounds("fieldOf", 1, 1, HERE, 0);
        bounds("fieldOf", 0, 0, 1, HERE);
    }

    /** Where a call is BAD by one number and NONE or FULL by all else, it is BAD. */
    private static void badIsLookedAtFirst() throws ReflectiveOperationException {
        // Build 1 of library 0 does not stand there, and has no USES; the second class of library 2's is library 1's.
        refused(BAD, "meet", 0, 1, 0);
        refused(BAD, "touch", 0, 1, 0);
        refused(BAD, "meet", 2, 0, 99);
        refused(BAD, "touch", 2, 0, -1);
        refused(BAD, "weave", 0, 1, 2);
        refused(BAD, "weave", 0, NONE, 1);
        refused(BAD, "weave", -1, NONE, NONE);
        refused(BAD, "pick", 5, NONE);
        refused(BAD, "pick", -1, NONE);
        refused(BAD, "pick", 3, 0);
        refused(BAD, "text", 3, 0);
        refused(BAD, "text", 0, NONE);
        refused(BAD, "shape", 0, 0, NONE, NONE);
        refused(BAD, "shape", 0, 0, 2, NONE);
        refused(BAD, "shape", 0, 0, 0, FULL);
        House h = filled(8, 3);
        House other = filled(8, 3);
        for (int lib : new int[] {-1, 5, MIN, MAX}) {
            Check.due("make with sixteen builds", h.call("make", lib), BAD);
            Check.due("weave with sixteen builds", h.call("weave", lib, 0, 1), BAD);
            Check.due("weave with sixteen builds", h.call("weave", 0, 0, 9), BAD);
        }
        Check.due("asked behind both", asked(h), asked(other));
        same("make of no library", filledCalled("make", BAD, -1), filled(8, 3));
    }

    /** Library 3 has builds of nothing, so has 4: with four others. */
    private static House filled(int third, int fourth) throws ReflectiveOperationException {
        House h = amid();
        h.call("cut", LEFT.length());
        for (int i = 0; i < third; i++) {
            Check.due("empty builds", h.call("make", 3), i);
        }
        for (int i = 0; i < fourth; i++) {
            Check.due("empty builds", h.call("make", 4), i);
        }
        h.make(5, "class d.D{}");
        return h;
    }

    private static House filledCalled(String name, int due, int... numbers) throws ReflectiveOperationException {
        House h = filled(8, 3);
        Check.due(told(name, numbers), h.call(name, numbers), due);
        return h;
    }

    private static void noneAndFull() throws ReflectiveOperationException {
        refused(NONE, "choose");
        refused(NONE, "meet", 2, 0, uses(2, "b.B"));
        refused(NONE, "touch", 2, 0, uses(2, "b.B"));
        refused(NONE, "weave", 0, 1, 0);
        refused(NONE, "weave", 0, 1, 1);
        House h = amid();
        House other = amid();
        for (House each : new House[] {h, other}) {
            each.call("pick", 2, NONE);
            each.call("broken");
        }
        Check.due("meet of a build that does not stand", h.call("meet", 2, 0, 0), NONE);
        Check.due("touch of a build that does not stand", h.call("touch", 2, 0, 0), NONE);
        Check.due("asked behind both", asked(h), asked(other));
        full(8, 0, 3, "eight builds");
        full(7, 5, 3, "sixteen builds");
        full(7, 5, 4, "sixteen builds");
        full(7, 5, 0, "sixteen builds");
    }

    /** A USE of that class of a build that stands. */
    private static int uses(int lib, String name) throws ReflectiveOperationException {
        House h = amid();
        for (int u = 0; u < h.call("uses", lib, 0); u++) {
            h.call("shape", lib, 0, h.call("use", lib, 0, u, 1), NONE);
            if (h.out().startsWith("class " + name)) {
                return u;
            }
        }
        Check.due("a use of " + name, -1, 0);
        return -1;
    }

    private static void full(int third, int fourth, int lib, String what) throws ReflectiveOperationException {
        House h = filled(third, fourth);
        House other = filled(third, fourth);
        Check.due("make with " + what, h.call("make", lib), FULL);
        if (third + fourth == 12) {
            Check.due("weave with " + what, h.call("weave", 0, 0, 1), FULL);
        }
        Check.due("asked behind make with " + what, asked(h), asked(other));
        House one = filled(third, fourth);
        Check.due("make with " + what, one.call("make", lib), FULL);
        Check.due("the tape stays", one.call("told", 6), 11);
        same("make with " + what, one, filled(third, fourth));
    }

    /** THE TAPE is empty behind it, nothing else is changed. */
    private static void runThatIsNone() throws ReflectiveOperationException {
        for (String told : new String[] {"", "b.B.no", "b.B", "b.B.go ", "a.A.f", "z.Any.go", "d.D.go", "b.B.go()", "$"}) {
            House h = amid();
            House other = amid();
            House twin = amid();
            House twinOther = amid();
            for (House each : new House[] {h, other, twin, twinOther}) {
                each.tape(told);
            }
            Check.due("run of '" + told + "'", h.call("run"), NONE);
            Check.due("run of '" + told + "'", other.call("run"), NONE);
            twin.call("cut", told.length());
            twinOther.call("cut", told.length());
            Check.due("asked behind run of '" + told + "'", asked(h), asked(twin));
            same("run of '" + told + "'", other, twinOther);
        }
    }

    /** THE TAPE has up to 4000 bytes: feed is FULL from the 3981st on. */
    private static void fullTape() throws ReflectiveOperationException {
        House h = new House();
        for (int i = 1; i <= 199; i++) {
            h.call("feed", 0x20202020, 0x20202020, 0x20202020, 0x20202020, 0x20202020);
        }
        Check.due("twenty bytes have room", h.call("feed", 0x20202020, 0x20202020, 0x20202020, 0x20202020, 0x24202020), 4000);
        for (int n = 4000; n > 3980; n--) {
            Check.due("feed with " + n, h.call("feed", 0x24242424, 0x24242424, 0x24242424, 0x24242424, 0x24242424), FULL);
            Check.due("the tape stays", h.call("told", 6), n);
            h.call("cut", 1);
        }
        Check.due("feed with 3980", h.call("feed", 0x20202020, 0x20202020, 0x20202020, 0x20202020, 0x20242020), 4000);
        Check.due("feed with 4000", h.call("feed", MAX, MAX, MAX, MAX, MAX), FULL);
        Check.due("what stands there", h.call("make", 0), -11);
        Check.due("is what was fed", h.call("place"), 3997);
    }
}
