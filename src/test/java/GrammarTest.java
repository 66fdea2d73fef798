import java.util.ArrayList;
import java.util.HashMap;
import java.util.LinkedHashSet;
import java.util.List;
import java.util.Map;
import java.util.Set;
import java.util.regex.Matcher;
import java.util.regex.Pattern;

/**
 * FAULTS 1, 2 and the 701st token, wherever in a text: behind each token of some texts each token is put, and the end. Which
 * can stand there, the document's own grammar tells (read from its words, by a reader that knows nothing of LinkHouse).
 */
public final class GrammarTest {
    /** As the document has it. */
    private static final String[] GRAMMAR = {
        "TEXT = {CLASS}",
        "CLASS = ['open'] (['final' | 'bare'] 'class' | 'face') C ['is' C] ['as' C {',' C}] ['in' C] ['with' C {',' C}] ['only' C {',' C}] '{' {MEMBER} '}'",
        "MEMBER = [A] ['static'] ['final' | 'bare'] (T NAME ['=' E] ';' | (T | 'void') NAME '(' PARAMS ')' (BLOCK | ';')) | [A] 'new' '(' PARAMS ')' BLOCK | 'start' BLOCK",
        "A = 'open' | 'kin' | 'own'",
        "T = 'int' | C",
        "PARAMS = [T NAME {',' T NAME}]",
        "BLOCK = '{' {S} '}'",
        "S = BLOCK | 'let' T NAME '=' E ';' | 'if' '(' E ')' S ['else' S] | 'while' '(' E ')' S | 'return' [E] ';' | 'throw' E ';' | 'try' BLOCK 'catch' '(' C NAME ')' BLOCK | 'out' E ';' | 'super' '(' ARGS ')' ';' | E ['=' E] ';'",
        "E = SUM [('<' | '==') SUM]",
        "SUM = PRODUCT {('+' | '-') PRODUCT}",
        "PRODUCT = UNIT {'*' UNIT}",
        "UNIT = FIRST {'.' NAME ['(' ARGS ')'] | 'ask' C}",
        "ARGS = [E {',' E}]",
        "FIRST = NUMBER | 'null' | 'this' | NAME ['(' ARGS ')'] | C '.' (NAME ['(' ARGS ')'] | 'super' '.' NAME '(' ARGS ')') | 'super' '.' NAME '(' ARGS ')' | 'new' C '(' ARGS ')' | '(' C ')' UNIT | '(' E ')'",
    };

    private static final String TOKENS = "class face as is in with only open kin own final bare static start void new int let if else while return throw try catch out null this super ask "
        + "{ } ( ) , ; . = == < + - * x a.A 1";

    /** Between them each word and sign stands wherever it can. */
    private static final String[] TEXTS = {
        "class a.A { } open class a.B { } final class a.C { } open bare class a.D { } face a.E { } open face a.F is a.A as a.B , a.C , a.D in a.E with a.F , a.G only a.H , a.I { }",
        "class a.A is a.B in a.C { } class a.A as a.B with a.C { } class a.A in a.B only a.C { } class a.A with a.B { } face a.A only a.B { }",
        "class a.A { int x ; a.B x = 1 ; open int x ; kin static a.B x = null ; own final int x ; static bare int x = 1 ; final a.B x ; bare int x ; }",
        "class a.A { void x ( ) ; int x ( ) { } a.B x ( int y ) ; open void x ( a.B y , int z ) { } own static int x ( ) { } kin static bare void x ( ) ; final a.B x ( ) ; new ( ) { } open new ( int x , a.B y ) { } own new ( ) { } start { } start { { } } }",
        "class a.A { start { { { } } let int x = 1 ; let a.B y = x ; if ( x ) return ; else return x ; if ( 1 ) { } while ( x ) { } while ( 1 ) x = 2 ; throw x ; out x ; } }",
        "class a.A { start { try { } catch ( a.B x ) { } try { out 1 ; } catch ( a.B x ) { throw x ; } super ( ) ; super ( 1 , x ) ; if ( x ) if ( y ) out 1 ; else out 2 ; else out 3 ; while ( x ) while ( y ) return ; } }",
        "class a.A { start { x ; x = y ; x ( ) ; x ( 1 ) . y ; x . y = 1 ; x . y ( ) ; x . y ( z , 2 ) . w = x ; a.B . x = y ; a.B . x ( ) ; a.B . x ( 1 , 2 ) ; a.B . super . x ( ) ; super . x ( ) ; super . x ( y ) . z = 1 ; new a.B ( ) ; new a.B ( x ) . y ; } }",
        "class a.A { int x = 1 + 2 - x * 3 < y * 4 + 5 ; int y = 1 == x + 1 ; int z = x * y * 3 - z ; int w = ( x ) ; int v = ( 1 + x ) * ( y ) ; int u = ( x < 1 ) == ( 2 ) ; }",
        "class a.A { int x = x ask a.B ; int y = ( x ask a.B ) + x . y ask a.C ask a.D ; int z = ( a.B ) x ; int w = ( a.B ) ( a.C ) x . y ( ) ask a.B ; int v = ( a.B . x ) ; int u = ( a.B . x ( ) + 1 ) ; int t = ( ( a.B ) this ) . x ; int s = ( a.B ) ( x ) ; }",
        "class a.A { int x = null ; int y = this ; int z = this . x ; int w = null . x ( ) ; int v = 1 . x ; int u = x ( y ( z ( ) ) , a.B . x , ( a.B ) y ) ; int t = new a.B ( new a.C ( ) , 1 ) ; int s = super . x ( ) * a.B . super . y ( 1 ) ; int r = ( super . x ( ) ) ; }",
        "class a.A { void x ( ) { ( x ) ; ( a.B ) x = ( a.B ) y ; ( a.B . x ) = 1 ; 1 ; null ; this ; this = 1 ; 1 = 2 ; x < 1 ; x == y = z ; x + y ; if ( ( a.B ) x ) { } if ( a.B . x ) out 1 ; while ( ( x ) ) { } } }",
    };

    /** A place in a rule: what can stand there, by token or by rule, and where that leads; steps that take nothing. */
    private static final class Place {
        final Map<String, List<Place>> token = new HashMap<>();
        final Map<String, List<Place>> rule = new HashMap<>();
        final List<Place> free = new ArrayList<>();
        String ends;
    }

    /** A place come to, and how many tokens stood ahead of its rule's first. */
    private record Item(Place place, int from) { }

    private static final Map<String, Place> RULES = new HashMap<>();

    public static void main(String[] args) {
        for (String rule : GRAMMAR) {
            int is = rule.indexOf(" = ");
            new RuleReader(rule.substring(0, is), rule.substring(is + 3));
        }
        for (String text : TEXTS) {
            everywhere(text.split(" "));
        }
        Check.end("GrammarTest");
    }

    /** Reads what is behind a rule's = into places. */
    private static final class RuleReader {
        private final Matcher part;
        private String now;

        RuleReader(String name, String told) {
            part = Pattern.compile("'[^']+'|\\w+|[\\[\\]{}()|]").matcher(told);
            next();
            Place first = place(name);
            Place last = either(first);
            last.ends = name;
        }

        private void next() {
            now = part.find() ? part.group() : "";
        }

        private Place either(Place from) {
            Place to = new Place();
            row(from).free.add(to);
            while (now.equals("|")) {
                next();
                row(from).free.add(to);
            }
            return to;
        }

        private Place row(Place from) {
            Place at = from;
            while (!now.isEmpty() && !"|]})".contains(now)) {
                at = one(at);
            }
            return at;
        }

        private Place one(Place from) {
            String told = now;
            next();
            if ("[{(".contains(told)) {
                Place in = new Place();
                from.free.add(in);
                Place to = either(in);
                next();
                if (told.equals("{")) {
                    to.free.add(in);
                }
                Place behind = new Place();
                to.free.add(behind);
                if (!told.equals("(")) {
                    in.free.add(behind);
                }
                return behind;
            }
            Place to = new Place();
            boolean isRule = told.matches("[A-Z]+") && !told.equals("C") && !told.equals("NAME") && !told.equals("NUMBER");
            (isRule ? from.rule : from.token).computeIfAbsent(told.replace("'", ""), k -> new ArrayList<>()).add(to);
            return to;
        }
    }

    private static Place place(String rule) {
        return RULES.computeIfAbsent(rule, k -> new Place());
    }

    /** What the grammar calls a token of this test: all its NAMES are of one letter. */
    private static String kind(String token) {
        return token.matches("[a-z]\\.[A-Z]\\w*") ? "C" : token.matches("\\d+") ? "NUMBER" : token.matches("[a-z]") ? "NAME" : token;
    }

    /** All that follows from what was come to behind the last token, without another one. */
    private static void close(List<Set<Item>> all) {
        int here = all.size() - 1;
        Set<Item> now = all.get(here);
        int size;
        do {
            size = now.size();
            for (Item i : new ArrayList<>(now)) {
                for (Place p : i.place.free) {
                    now.add(new Item(p, i.from));
                }
                for (String rule : i.place.rule.keySet()) {
                    now.add(new Item(place(rule), here));
                }
                if (i.place.ends != null) {
                    for (Item outer : new ArrayList<>(all.get(i.from))) {
                        for (Place p : outer.place.rule.getOrDefault(i.place.ends, List.of())) {
                            now.add(new Item(p, outer.from));
                        }
                    }
                }
            }
        } while (now.size() > size);
    }

    private static Set<Item> behind(Set<Item> now, String kind) {
        Set<Item> next = new LinkedHashSet<>();
        for (Item i : now) {
            for (Place p : i.place.token.getOrDefault(kind, List.of())) {
                next.add(new Item(p, i.from));
            }
        }
        return next;
    }

    private static boolean isWhole(Set<Item> now) {
        for (Item i : now) {
            if ("TEXT".equals(i.place.ends)) {
                return true;
            }
        }
        return false;
    }

    /** Behind each token of the text: each token, and the end. */
    private static void everywhere(String[] tokens) {
        List<Set<Item>> all = new ArrayList<>();
        Set<Item> first = new LinkedHashSet<>();
        first.add(new Item(place("TEXT"), 0));
        all.add(first);
        close(all);
        StringBuilder ahead = new StringBuilder();
        for (int n = 0; n < tokens.length; n++) {
            eachBehind(ahead.toString(), n, all);
            all.add(behind(all.get(n), kind(tokens[n])));
            close(all);
            ahead.append(tokens[n]).append(' ');
        }
        eachBehind(ahead.toString(), tokens.length, all);
        Check.due("a whole text: " + ahead, isWhole(all.get(tokens.length)) ? 1 : 0, 1);
    }

    private static void eachBehind(String ahead, int n, List<Set<Item>> all) {
        Set<Item> now = all.get(n);
        House plain = new House("", ahead);
        House full = new House(padding(700 - n), ahead);
        boolean whole = isWhole(now);
        plain.holds("", whole ? 0 : 2);
        full.holds("", whole ? 0 : 2);
        for (String token : TOKENS.split(" ")) {
            Set<Item> next = behind(now, kind(token));
            boolean stands = !next.isEmpty();
            full.holds(token, stands ? 3 : 2);
            if (stands) {
                List<Set<Item>> more = new ArrayList<>(all.subList(0, n + 1));
                more.add(next);
                close(more);
                plain.ends(token, isWhole(next));
            } else {
                plain.holds(token, 2);
            }
        }
        for (String none : new String[] {"$", "A", "abcdefghijk", "a.Abcdefghij", "1234567890", "\t"}) {
            plain.holds(none, 1);
            full.holds(none, 1);
        }
    }

    /** A class of that many tokens. */
    private static String padding(int tokens) {
        int left = tokens - 10;
        return "class a.Q{void f(){" + (left % 2 == 0 ? "{}".repeat(left / 2) : "out 1;" + "{}".repeat((left - 3) / 2)) + "}}\n";
    }

    /** Houses that read one text's first tokens and one more, again and again. */
    private static final class House {
        private final String padding;
        private final String ahead;
        private final int callsEach;
        private Check c;
        private int calls;

        House(String padding, String ahead) {
            this.padding = padding;
            this.ahead = ahead;
            callsEach = 12 + (ahead.length() + 20) / 20;
        }

        /** THE TAPE is the padding, the first tokens, and this one. */
        private int made(String token) {
            if (c == null || calls + callsEach > 512 || c.x.builds(1) > 6) {
                c = new Check();
                calls = 12 + (padding.length() + 20) / 20;
                Check.due("padding", c.make(0, padding), 0);
            }
            calls += callsEach;
            c.x.text(0, 0);
            String bytes = ahead + token;
            for (int at = 0; at < bytes.length(); at += 20) {
                int[] word = new int[5];
                for (int k = 0; k < 20 && at + k < bytes.length(); k++) {
                    word[k / 4] |= (bytes.charAt(at + k) & 255) << (24 - 8 * (k % 4));
                }
                c.x.feed(word[0], word[1], word[2], word[3], word[4]);
            }
            c.x.cut((20 - bytes.length() % 20) % 20);
            return c.x.make(1);
        }

        /** That token has this FAULT; none of 1, 2, 3 if it is 0. */
        void holds(String token, int fault) {
            int answer = made(token);
            if (fault == 0) {
                Check.due(ahead + "with the end", answer <= -11 && answer >= -13 ? answer : 0, 0);
            } else {
                Check.due(ahead + "with " + token, answer, -10 - fault);
                Check.due("place of " + token + " behind " + ahead, c.x.place(), padding.length() + ahead.length());
            }
        }

        /** It can stand there, and the end behind it if that is whole; else the end is 2. */
        void ends(String token, boolean whole) {
            int answer = made(token);
            if (whole) {
                Check.due(ahead + "with " + token, answer <= -11 && answer >= -13 ? answer : 0, 0);
            } else {
                Check.due(ahead + "with " + token + " and the end", answer, -12);
                Check.due("place of the end behind " + ahead + token, c.x.place(), padding.length() + ahead.length() + token.length());
            }
        }
    }
}
