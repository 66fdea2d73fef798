/** What the tests share: a house, its tape told in letters, and answers held against what is due. */
final class Check {
    static int wrong = 0;
    static int held = 0;
    final LinkHouse x = new LinkHouse();

    static void due(String what, long got, long want) {
        held++;
        if (got != want) {
            wrong++;
            System.out.println(brief(what) + " answered " + got + ", due is " + want);
        }
    }

    static void due(String what, String got, String want) {
        held++;
        if (!got.equals(want)) {
            wrong++;
            System.out.println(brief(what) + " told '" + got + "', due is '" + want + "'");
        }
    }

    private static String brief(String what) {
        return what.length() <= 300 ? what : what.substring(0, 150) + " .. " + what.substring(what.length() - 140);
    }

    static void end(String name) {
        System.out.println(name + ": " + held + " answers held, " + wrong + " wrong");
        if (wrong > 0) {
            System.exit(1);
        }
    }

    /** A text of library 1 has a FAULT, at the place of '@' in it, beside a build of library 0; no build is made, THE TAPE is empty. */
    static void fault(String base, int fault, String text) {
        Check c = new Check();
        c.stand(0, base);
        int place = text.indexOf('@');
        String told = place < 0 ? text : text.substring(0, place) + text.substring(place + 1);
        due(text, c.make(1, told), -10 - fault);
        due("place in " + text, c.x.place(), place);
        due("the tape behind " + text, c.x.told(6), 0);
        due("builds behind " + text, c.x.builds(1), 0);
    }

    /** A text of library 1 has no FAULT, beside a build of library 0. */
    static Check fine(String base, String text) {
        Check c = new Check();
        c.stand(0, base);
        due(text, c.make(1, text), 0);
        due("place in " + text, c.x.place(), LinkHouse.NONE);
        return c;
    }

    /** THE TAPE has just these bytes. */
    void tape(String bytes) {
        x.cut(x.told(6));
        for (int at = 0; at < bytes.length(); at += 20) {
            int[] word = new int[5];
            for (int k = 0; k < 20 && at + k < bytes.length(); k++) {
                word[k / 4] |= (bytes.charAt(at + k) & 255) << (24 - 8 * (k % 4));
            }
            x.feed(word[0], word[1], word[2], word[3], word[4]);
        }
        x.cut((20 - bytes.length() % 20) % 20);
        due("bytes of the tape", x.told(6), bytes.length());
    }

    int make(int lib, String text) {
        tape(text);
        return x.make(lib);
    }

    /** A build that has no fault stands in THE WORLD now. */
    int stand(int lib, String text) {
        int build = make(lib, text);
        if (build < 0) {
            due("make of " + text + " with place " + x.place(), build, 0);
            return build;
        }
        x.pick(lib, build);
        return build;
    }

    int run(String call) {
        tape(call);
        return x.run();
    }

    String out() {
        StringBuilder s = new StringBuilder();
        for (int i = 0; i < x.size(); i++) {
            s.append((char) x.octet(i));
        }
        return s.toString();
    }

    String head(int lib, int build, int k) {
        x.shape(lib, build, k, LinkHouse.NONE);
        return out();
    }

    String member(int lib, int build, int k, int m) {
        x.shape(lib, build, k, m);
        return out();
    }

    /** The members of a class, one behind the other. */
    String members(int lib, int build, int k) {
        StringBuilder s = new StringBuilder();
        for (int m = 0; m < x.members(lib, build, k); m++) {
            s.append(m == 0 ? "" : "; ").append(member(lib, build, k, m));
        }
        return s.toString();
    }

    /** The uses of a class of a build, one behind the other. */
    String uses(int lib, int build, int k) {
        StringBuilder s = new StringBuilder();
        for (int u = 0; u < x.uses(lib, build); u++) {
            if (x.use(lib, build, u, 1) == k) {
                x.tell(lib, build, u);
                s.append(s.length() == 0 ? "" : "; ").append(out());
            }
        }
        return s.toString();
    }

    /** The number of a use that is told so. */
    int useOf(int lib, int build, String told) {
        for (int u = 0; u < x.uses(lib, build); u++) {
            x.tell(lib, build, u);
            if (out().equals(told)) {
                return u;
            }
        }
        due("a use told " + told, -1, 0);
        return -1;
    }

    /** What meet() answers, what met() tells, and the names of the classes looked in. */
    String meet(int lib, int build, String told) {
        int u = useOf(lib, build, told);
        StringBuilder s = new StringBuilder();
        s.append(x.meet(lib, build, u));
        x.met();
        s.append(" ").append(out()).append(" [");
        for (int i = 0; x.looked(i) >= 0; i++) {
            int k = x.looked(i);
            x.name(k);
            s.append(i == 0 ? "" : " ").append(out());
        }
        return s.append("]").toString();
    }

    String numbers() {
        StringBuilder s = new StringBuilder();
        for (int i = 0; i < x.told(1); i++) {
            s.append(i == 0 ? "" : " ").append(x.number(i));
        }
        return s.toString();
    }

    String events() {
        StringBuilder s = new StringBuilder();
        for (int i = 0; x.event(i) >= 0; i++) {
            s.append(i == 0 ? "" : " ").append(x.event(i));
        }
        return s.toString();
    }

    /** The differences' numbers, each with what is told of it. */
    String changes() {
        StringBuilder s = new StringBuilder();
        for (int i = 0; x.change(i, 0) >= 0; i++) {
            s.append(i == 0 ? "" : "; ").append(x.change(i, 0));
            for (int what = 1; what <= 4; what++) {
                int n = x.change(i, what);
                s.append(" ").append(n == LinkHouse.NONE ? "-" : "" + n);
            }
        }
        return s.toString();
    }

    static String times(String s, int n) {
        StringBuilder all = new StringBuilder();
        for (int i = 0; i < n; i++) {
            all.append(s);
        }
        return all.toString();
    }
}
