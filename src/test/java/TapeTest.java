/** Promises 1 to 7: a new object, feed, cut, splice, text, size, octet. */
public final class TapeTest {
    public static void main(String[] args) {
        newObject();
        feedAndCut();
        splice();
        textAndOut();
        Check.end("TapeTest");
    }

    private static void newObject() {
        LinkHouse x = new LinkHouse();
        Check.due("BAD", LinkHouse.BAD, -1);
        Check.due("NONE", LinkHouse.NONE, -2);
        Check.due("FULL", LinkHouse.FULL, -3);
        for (int what = 0; what <= 7; what++) {
            Check.due("new told " + what, x.told(what), what == 5 ? 2 : 0);
        }
        Check.due("new told -1", x.told(-1), LinkHouse.BAD);
        Check.due("new told 8", x.told(8), LinkHouse.BAD);
        for (int lib = 0; lib < 5; lib++) {
            Check.due("new builds", x.builds(lib), 0);
            Check.due("new picked", x.picked(lib), LinkHouse.NONE);
        }
        Check.due("new size", x.size(), 0);
        Check.due("new place", x.place(), LinkHouse.NONE);
        Check.due("new value", x.value(), 0);
        Check.due("new met", x.met(), 0);
        Check.due("new looked", x.looked(0), LinkHouse.BAD);
        Check.due("new broken", x.broken(), 0);
        Check.due("new change", x.change(0, 0), LinkHouse.BAD);
        Check.due("new event", x.event(0), LinkHouse.BAD);
        Check.due("name of z.Any", x.name(0), 5);
        Check.due("state of z.Ill", x.state(1), 4);
        Check.due("state of none", x.state(2), LinkHouse.BAD);
    }

    private static void feedAndCut() {
        Check c = new Check();
        for (int i = 1; i <= 200; i++) {
            Check.due("feed " + i, c.x.feed(0x61626364, -1, 0, 0x20202020, 0x7a), 20 * i);
        }
        Check.due("feed beyond", c.x.feed(0, 0, 0, 0, 0), LinkHouse.FULL);
        Check.due("cut below 0", c.x.cut(-1), LinkHouse.BAD);
        Check.due("cut too much", c.x.cut(4001), LinkHouse.BAD);
        Check.due("cut least", c.x.cut(Integer.MIN_VALUE), LinkHouse.BAD);
        Check.due("cut none", c.x.cut(0), 4000);
        Check.due("cut 19", c.x.cut(19), 3981);
        Check.due("feed into 19", c.x.feed(0, 0, 0, 0, 0), LinkHouse.FULL);
        Check.due("cut 1", c.x.cut(1), 3980);
        Check.due("feed into 20", c.x.feed(0, 0, 0, 0, 0), 4000);
        Check.due("cut all", c.x.cut(4000), 0);
        Check.due("cut of nothing", c.x.cut(1), LinkHouse.BAD);
        Check.due("the highest byte first", c.make(0, "class a.A { } $"), -11);
        Check.due("where", c.x.place(), 14);
    }

    /** What is on the tape shows as a build's text does: by the name of its one class. */
    private static void splice() {
        Check c = new Check();
        c.tape("class a.A {}XYZ");
        Check.due("splice k below 0", c.x.splice(0, 0, -1), LinkHouse.BAD);
        Check.due("splice k beyond", c.x.splice(0, 0, 16), LinkHouse.BAD);
        Check.due("splice at below 0", c.x.splice(-1, 0, 1), LinkHouse.BAD);
        Check.due("splice at beyond", c.x.splice(13, 0, 3), LinkHouse.BAD);
        Check.due("splice n below 0", c.x.splice(1, -1, 3), LinkHouse.BAD);
        Check.due("splice n beyond", c.x.splice(9, 4, 3), LinkHouse.BAD);
        Check.due("splice n far beyond", c.x.splice(9, Integer.MAX_VALUE, 3), LinkHouse.BAD);
        Check.due("refused changes nothing", c.x.told(6), 15);
        Check.due("splice in place of one", c.x.splice(8, 1, 3), 14);
        Check.due("make spliced", c.x.make(0), 0);
        Check.due("its name", c.head(0, 0, 0), "class a.XYZ");
        c.tape("{ }class a.B ");
        Check.due("splice to the front", c.x.splice(0, 0, 10), 13);
        Check.due("make spliced", c.x.make(0), 1);
        Check.due("its name", c.head(0, 1, 0), "class a.B");
        c.tape("class a.C { }$$$");
        Check.due("splice only cuts", c.x.splice(13, 3, 0), 13);
        Check.due("make spliced", c.x.make(0), 2);
        c.tape("class a.D { }");
        Check.due("splice at the end", c.x.splice(10, 0, 3), 13);
        Check.due("splice nothing", c.x.splice(13, 0, 0), 13);
        Check.due("make spliced", c.x.make(0), 3);
    }

    private static void textAndOut() {
        Check c = new Check();
        String text = "open class a.A {\n open a.A f() { return this; } }  ";
        Check.due("make", c.make(1, text), 0);
        Check.due("the tape is empty then", c.x.told(6), 0);
        c.tape("rest");
        Check.due("text of no library", c.x.text(5, 0), LinkHouse.BAD);
        Check.due("text of no library", c.x.text(-1, 0), LinkHouse.BAD);
        Check.due("text of no build", c.x.text(1, 1), LinkHouse.BAD);
        Check.due("text of no build", c.x.text(1, -2), LinkHouse.BAD);
        Check.due("the tape stays", c.x.told(6), 4);
        Check.due("text", c.x.text(1, 0), text.length());
        Check.due("the same once more", c.x.make(2), 0);
        Check.due("differences", c.x.members(2, 0, 0), 2);
        Check.due("shape", c.x.shape(1, 0, 0, LinkHouse.NONE), 14);
        Check.due("size", c.x.size(), 14);
        Check.due("octet", c.x.octet(13), 'A');
        Check.due("octet beyond", c.x.octet(14), LinkHouse.BAD);
        Check.due("octet below", c.x.octet(-1), LinkHouse.BAD);
        Check.due("refused shape", c.x.shape(1, 0, 1, LinkHouse.NONE), LinkHouse.BAD);
        Check.due("refused name", c.x.name(2), LinkHouse.BAD);
        Check.due("refused tell", c.x.tell(1, 0, 9), LinkHouse.BAD);
        Check.due("OUT stays", c.out(), "open class a.A");
        Check.due("what was told latest", c.x.name(1), 5);
        Check.due("OUT", c.out(), "z.Ill");
        String second = "open class a.A { open z.Any f() { return this; } }";
        Check.due("make", c.make(1, second), 1);
        Check.due("woven", c.x.weave(1, 1, 0), 2);
        Check.due("text of a woven one", c.x.text(1, 2), text.length());
    }
}
