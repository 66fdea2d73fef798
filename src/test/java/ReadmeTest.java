import java.nio.file.Files;
import java.nio.file.Path;
import java.util.ArrayList;
import java.util.List;

/** The examples of README.md: they answer as they say there, and README.md has them just as they stand here. */
public final class ReadmeTest {
    private static final String BEGIN = "// README.md has from here";
    private static final String END = "// to here";

    public static void main(String[] args) throws Exception {
        LinkHouse house = new LinkHouse();
        making(house);
        asking(house);
        running(house);
        changing(house);
        sameText();
        Check.end("ReadmeTest");
    }

    private static void is(long got, long due) {
        Check.due("README.md's line", got, due);
    }

    private static void is(String got, String due) {
        Check.due("README.md's line", got, due);
    }

    // README.md has from here
    static void tape(LinkHouse house, String letters) {
        house.cut(house.told(6));
        for (int at = 0; at < letters.length(); at += 20) {
            int[] word = new int[5];
            for (int k = 0; k < 20 && at + k < letters.length(); k++) {
                word[k / 4] |= letters.charAt(at + k) << (24 - 8 * (k % 4));
            }
            house.feed(word[0], word[1], word[2], word[3], word[4]);
        }
        house.cut(house.told(6) - letters.length());
    }

    static String letters(LinkHouse house) {
        StringBuilder s = new StringBuilder();
        for (int i = 0; i < house.size(); i++) {
            s.append((char) house.octet(i));
        }
        return s.toString();
    }
    // to here

    private static void making(LinkHouse house) {
        // README.md has from here
        tape(house, "open class a.A { open static int twice(int p) { return p + p; } }");
        is(house.make(0), 0);                    // library 0 has a build: its number
        is(house.pick(0, 0), LinkHouse.NONE);    // it stands in THE WORLD now; none stood there
        tape(house, "class c.M { static int main() { out a.A.twice(4); return a.A.twice(21); } }");
        is(house.make(1), 0);
        is(house.pick(1, 0), LinkHouse.NONE);
        tape(house, "class a.B { int x = ; }");
        is(house.make(2), -12);                  // -10 less the FAULT: 2, a token that can't stand there
        is(house.place(), 20);                   // the byte at which that token begins
        // to here
    }

    private static void asking(LinkHouse house) {
        // README.md has from here
        is(house.classes(1, 0), 1);
        is(house.members(1, 0, 0), 2);           // main, and the maker that c.M was told none
        house.shape(1, 0, 0, LinkHouse.NONE);
        is(letters(house), "class c.M");
        house.shape(1, 0, 0, 0);
        is(letters(house), "static int main()");
        is(house.uses(1, 0), 1);
        is(house.use(1, 0, 0, 0), 9);            // its sort: a CALL of a static method
        is(house.use(1, 0, 0, 1), 0);            // its class: c.M
        house.tell(1, 0, 0);
        is(letters(house), "9 a.A.twice(int)int");
        is(house.meet(1, 0, 0), 0);              // no failure
        house.met();
        is(letters(house), "a.A.twice(int)int"); // what it found
        is(house.looked(0), 2);                  // where: class 2 of THE WORLD
        house.name(2);
        is(letters(house), "a.A");
        // to here
    }

    private static void running(LinkHouse house) {
        // README.md has from here
        tape(house, "c.M.main");
        is(house.run(), 1);                      // it gave
        is(house.value(), 42);
        is(house.told(0), 7);                    // STEPS
        is(house.told(1), 1);                    // numbers that out told
        is(house.number(0), 8);
        is(house.told(4), 8);                    // events
        is(house.event(0), 301);                 // class 3, c.M, was LOADED
        is(house.event(7), 204);                 // class 2, a.A, is STARTED
        is(house.state(3), 4);                   // STARTED
        is(house.fresh(), 2);                    // so many were LOADED; the machine is FRESH
        is(house.state(3), 0);
        // to here
    }

    private static void changing(LinkHouse house) {
        // README.md has from here
        tape(house, "open class a.A { open static int twice(int p, int q) { return p * q; } }");
        is(house.make(0), 1);
        is(house.differ(0, 0, 1), 2);
        is(house.change(0, 0), 30);              // a method gone
        is(house.change(1, 0), 40);              // a new one
        is(house.word(0, 0, 1), 3);
        is(house.pick(0, 1), 0);                 // build 0 stood there
        is(house.broken(), 1);
        is(house.brokenAt(0, 0), 1);             // of library 1
        is(house.brokenAt(0, 1), 0);             // USE 0
        is(house.brokenAt(0, 2), 5);             // NO METHOD
        is(house.choose(), 2);                   // the second world that was tried has nothing broken
        is(house.picked(0), 0);
        tape(house, "open class b.P { open z.Any give() { return null; } }");
        is(house.make(2), 0);
        tape(house, "open class b.P { open b.P give() { return null; } }");
        is(house.make(2), 1);
        is(house.weave(2, 0, 1), 2);             // a build more
        house.shape(2, 2, 0, 2);                 // behind give and the maker
        is(letters(house), "bridge open z.Any give()");
        // to here
    }

    /** Each part between the marks above is a block of README.md, in the same order, but for how far it is put in. */
    private static void sameText() throws Exception {
        List<String> here = blocks("src/test/java/ReadmeTest.java", BEGIN, END);
        List<String> there = blocks("README.md", "```java", "```");
        Check.due("examples in README.md", there.size(), here.size());
        for (int i = 0; i < Math.min(here.size(), there.size()); i++) {
            Check.due("example " + i + " of README.md", there.get(i), here.get(i));
        }
    }

    private static List<String> blocks(String file, String begin, String end) throws Exception {
        List<String> all = new ArrayList<>();
        StringBuilder block = null;
        int indent = 0;
        for (String line : Files.readAllLines(Path.of(file))) {
            if (block == null && line.trim().equals(begin)) {
                block = new StringBuilder();
                indent = line.indexOf(begin);
            } else if (block != null && line.trim().equals(end)) {
                all.add(block.toString());
                block = null;
            } else if (block != null) {
                block.append(line.length() < indent ? line : line.substring(indent)).append('\n');
            }
        }
        return all;
    }
}
