import java.lang.management.ManagementFactory;
import java.lang.reflect.Array;
import java.lang.reflect.Field;
import java.lang.reflect.Modifier;
import java.util.ArrayDeque;
import java.util.Collections;
import java.util.IdentityHashMap;
import java.util.Set;

/** The ONE room that all calls of a run live in: what a house holds is made in its constructor, and no call makes anything. */
public final class RoomTest {
    private static final int OBJECTS_MOST = 60_000;
    private static final int ELEMENTS_MOST = 730_000;

    private static final com.sun.management.ThreadMXBean BEAN = (com.sun.management.ThreadMXBean) ManagementFactory.getThreadMXBean();

    private static int objects;
    private static int elements;

    public static void main(String[] args) throws ReflectiveOperationException {
        int[][] texts = {words(chain()), words(heirs()), words(rich("")), words(rich("out 1; ")), words(faulty()), words("b.A.go"), words("c.B.go")};
        // Java itself makes some things now and then (as it loads or compiles classes); what calls make comes with each house.
        long least = Long.MAX_VALUE;
        for (int turn = 0; turn < 8; turn++) {
            LinkHouse x = new LinkHouse();
            count(x);
            int objectsAhead = objects;
            int elementsAhead = elements;
            Check.due("objects and arrays of a new house are few: " + objects, objects <= OBJECTS_MOST ? 1 : 0, 1);
            Check.due("fields and elements of a new house are few: " + elements, elements <= ELEMENTS_MOST ? 1 : 0, 1);
            long ahead = bytes();
            int calls = callAll(x, texts);
            least = Math.min(least, bytes() - ahead);
            Check.due("calls are not too many: " + calls, calls <= 512 ? 1 : 0, 1);
            Check.due("all builds were made", x.told(7), 16);
            Check.due("builds of library 2", x.builds(2) > 2 ? x.classes(2, 0) + x.classes(2, 1) + x.classes(2, 2) : 0, 12);
            Check.due("the 201st object was not made", x.told(2), 200);
            count(x);
            Check.due("objects and arrays behind the calls", objects, objectsAhead);
            Check.due("fields and elements behind the calls", elements, elementsAhead);
        }
        Check.due("bytes that the calls made", least, 0);
        Check.end("RoomTest");
    }

    private static long bytes() {
        return BEAN.getCurrentThreadAllocatedBytes();
    }

    /** Twelve classes, each the PARENT of the next, whose m gives a nearer class each time. */
    private static String chain() {
        StringBuilder s = new StringBuilder();
        for (char c = 'A'; c <= 'L'; c++) {
            s.append("open class a.").append(c).append(c == 'A' ? "" : " is a." + (char) (c - 1));
            s.append("{open a.").append(c).append(" m(int p,int q,int r,int s){return null;}");
            s.append(c == 'A' ? "open static void go(){while(1){}}}" : "}");
        }
        return s.toString();
    }

    /** Twelve classes with twelve BRIDGES each; the first has much that runs. */
    private static String heirs() {
        StringBuilder s = new StringBuilder();
        for (char c = 'A'; c <= 'L'; c++) {
            s.append("open class b.").append(c).append(" is a.L{open b.").append(c).append(" m(int p,int q,int r,int s){return null;}");
            if (c == 'A') {
                s.append("int x;int y;open static void go(){let a.A t=new b.A();t.m(1,2,3,4);while(1)new b.A().f();}void f(){");
                s.append(Check.times("x=y;", 60)).append("}");
            }
            s.append("}");
        }
        return s.toString();
    }

    /** A text with something of all sorts; two of them differ. */
    private static String rich(String more) {
        String result = more.isEmpty() ? "c.A" : "c.B";
        return "face c.F{int kk=3;open int g(int p){" + more + "return p+kk;}} open bare class c.A as c.F only c.B{open bare void h();}"
            + "open class c.B is c.A with c.C{static int s=c.F.kk*2;open int x=1;own c.B o;start{s=7;" + more + "}open void h(){" + more + "}"
            + "open " + result + " n(){return this;}open new(int p){super();x=p;}"
            + "open static void go(){try{throw new z.Ill();}catch(z.Ill e){out e.code;}let c.B b=new c.B(s);out b.g(1);b.h();b.n();out b ask c.F;out ((c.A)b).g(2);}}"
            + "class c.C in c.B{open static void own1(c.B b){b.o=b;out b.o==b;}}";
    }

    /** A FAULT at the end of a text that is read all through. */
    private static String faulty() {
        return chain() + "class a.A{}";
    }

    private static int[] words(String text) {
        int[] w = new int[(text.length() + 19) / 20 * 5 + 1];
        for (int i = 0; i < text.length(); i++) {
            w[i / 4] |= (text.charAt(i) & 255) << (24 - 8 * (i % 4));
        }
        w[w.length - 1] = text.length();
        return w;
    }

    private static int calls;

    /** Some five hundred calls, the dearest that there are among them; this makes nothing of its own. */
    private static int callAll(LinkHouse x, int[][] texts) {
        calls = 0;
        feed(x, texts[0]);
        x.make(0);
        x.pick(0, 0);
        feed(x, texts[1]);
        x.make(1);
        x.pick(1, 0);
        feed(x, texts[2]);
        x.make(2);
        feed(x, texts[3]);
        x.make(2);
        x.pick(2, 1);
        feed(x, texts[4]);
        x.make(3);
        x.place();
        calls += 10;
        ask(x, 1, 0);
        ask(x, 2, 1);
        hold(x);
        for (int lib = 0; lib < 5 && x.told(7) < 16; lib++) {
            for (int i = 0; i < 8 && x.told(7) < 16; i++) {
                x.text(lib % 2, 0);
                x.make(lib);
                calls += 3;
            }
        }
        x.choose();
        x.text(0, 0);
        x.splice(5, 3, 100);
        x.weave(2, 0, 1);
        x.fresh();
        calls += 5;
        feed(x, texts[6]);
        x.run();
        feed(x, texts[5]);
        x.run();
        look(x);
        calls += 4;
        return calls;
    }

    private static void feed(LinkHouse x, int[] w) {
        int length = w[w.length - 1];
        x.cut(x.told(6));
        for (int i = 0; i + 5 < w.length; i += 5) {
            x.feed(w[i], w[i + 1], w[i + 2], w[i + 3], w[i + 4]);
            calls++;
        }
        x.cut((20 - length % 20) % 20);
        calls += 3;
    }

    private static void ask(LinkHouse x, int lib, int build) {
        x.builds(lib);
        x.picked(lib);
        x.uses(lib, build);
        for (int k = 0; k < x.classes(lib, build) && k < 3; k++) {
            x.members(lib, build, k);
            x.shape(lib, build, k, LinkHouse.NONE);
            x.shape(lib, build, k, 0);
            calls += 4;
        }
        for (int u = 0; u < 12; u++) {
            x.use(lib, build, u, 0);
            x.tell(lib, build, u);
            x.meet(lib, build, u);
            x.touch(lib, build, u);
            calls += 4;
        }
        x.met();
        x.looked(0);
        x.broken();
        x.brokenAt(0, 2);
        x.stale();
        x.size();
        x.octet(0);
        calls += 10;
    }

    private static void hold(LinkHouse x) {
        x.differ(2, 0, 1);
        x.change(0, 0);
        x.word(2, 1, 0);
        x.weave(2, 0, 1);
        calls += 4;
    }

    private static void look(LinkHouse x) {
        x.value();
        x.number(0);
        x.event(0);
        x.name(2);
        x.state(2);
        x.classOf(1);
        x.fieldOf(1, 0);
        calls += 7;
    }

    /** All that can be come to from an object, by fields and elements. */
    private static void count(Object start) throws ReflectiveOperationException {
        objects = 0;
        elements = 0;
        Set<Object> seen = Collections.newSetFromMap(new IdentityHashMap<>());
        ArrayDeque<Object> open = new ArrayDeque<>();
        come(start, seen, open);
        while (!open.isEmpty()) {
            Object o = open.poll();
            Class<?> c = o.getClass();
            objects++;
            if (c.isArray()) {
                elements += Array.getLength(o);
                for (int i = 0; i < Array.getLength(o) && !c.getComponentType().isPrimitive(); i++) {
                    come(Array.get(o, i), seen, open);
                }
                continue;
            }
            for (Field f : c.getDeclaredFields()) {
                if (!Modifier.isStatic(f.getModifiers())) {
                    elements++;
                    f.setAccessible(true);
                    come(f.getType().isPrimitive() ? null : f.get(o), seen, open);
                }
            }
        }
    }

    private static void come(Object o, Set<Object> seen, ArrayDeque<Object> open) {
        if (o != null && seen.add(o)) {
            open.add(o);
        }
    }
}
