import java.io.ByteArrayOutputStream;
import java.io.OutputStream;
import java.io.PrintStream;
import java.net.URI;
import java.nio.file.Files;
import java.nio.file.Path;
import java.util.ArrayList;
import java.util.HashMap;
import java.util.List;
import java.util.Map;
import java.util.concurrent.ConcurrentHashMap;
import java.util.concurrent.ExecutorService;
import java.util.concurrent.Executors;
import java.util.concurrent.TimeUnit;
import java.util.regex.Matcher;
import java.util.regex.Pattern;
import java.util.stream.Stream;
import javax.tools.FileObject;
import javax.tools.ForwardingJavaFileManager;
import javax.tools.JavaCompiler;
import javax.tools.JavaFileManager;
import javax.tools.JavaFileObject;
import javax.tools.SimpleJavaFileObject;
import javax.tools.ToolProvider;

/**
 * Changes LinkHouse.java at one place at a time (a bound by one, a comparison, a condition, a statement left out), and tells the
 * changes that none of the tests in src/test/java finds wrong: java tools/Mutants.java [skip [step]] [runs] [conditions]. RoomTest
 * is left out, and RunsTest too, but with 'runs'. With 'conditions' the changes are others: one part of a condition left out, a
 * condition that always holds, or never.
 */
public final class Mutants {
    private static final JavaCompiler COMPILER = ToolProvider.getSystemJavaCompiler();
    private static final Pattern PLACES = Pattern.compile(" (<=|>=|<|>|==|!=|&&|\\|\\||\\+|-) |(?<=[ (])!(?=[a-z(])|\\b(true|false)\\b|(?<![\\w.'])\\d+(?![\\w'.L])");
    private static final Pattern STATEMENT = Pattern.compile("(?m)^ +(?!return|private|static|final|break|continue|case|int |long |boolean |byte|Row |Member |Node |Build )[A-Za-z][\\w.\\[\\]+* -]*(\\(.*\\)| [+|-]?= .*|\\+\\+|--);$");

    private record Change(int from, int to, String now) { }

    private static String source;
    private static final Map<String, byte[]> TESTS = new HashMap<>();
    private static final List<String> MAINS = new ArrayList<>();
    private static final Map<Integer, String> LEFT = new ConcurrentHashMap<>();

    public static void main(String[] args) throws Exception {
        List<String> words = List.of(args);
        int skip = args.length > 0 && args[0].matches("\\d+") ? Integer.parseInt(args[0]) : 0;
        int step = args.length > 1 && args[1].matches("\\d+") ? Integer.parseInt(args[1]) : 1;
        source = Files.readString(Path.of("src/main/java/LinkHouse.java"));
        compileTests(words.contains("runs"));
        PrintStream told = System.out;
        System.setOut(new PrintStream(OutputStream.nullOutputStream()));
        if (!"".equals(tried(source))) {
            told.println("the tests find LinkHouse itself wrong: " + tried(source));
            return;
        }
        List<Change> changes = words.contains("conditions") ? conditions() : changes();
        told.println(changes.size() + " changes");
        ExecutorService pool = Executors.newFixedThreadPool(Runtime.getRuntime().availableProcessors());
        for (int i = skip; i < changes.size(); i += step) {
            int n = i;
            Change c = changes.get(i);
            pool.submit(() -> {
                String answer = tried(source.substring(0, c.from) + c.now + source.substring(c.to));
                if (answer.isEmpty()) {
                    tell(told, n, c);
                }
            });
        }
        pool.shutdown();
        pool.awaitTermination(10, TimeUnit.HOURS);
        told.println(LEFT.size() + " left");
        System.exit(0);
    }

    private static synchronized void tell(PrintStream told, int n, Change c) {
        int line = 1 + (int) source.substring(0, c.from).chars().filter(ch -> ch == '\n').count();
        int start = source.lastIndexOf('\n', c.from) + 1;
        int end = source.indexOf('\n', c.to);
        LEFT.put(n, "");
        told.println(n + " line " + line + ": " + source.substring(start, c.from).trim() + " [[" + source.substring(c.from, c.to) + " => " + c.now + "]] "
            + source.substring(c.to, end));
    }

    private static List<Change> changes() {
        List<Change> all = new ArrayList<>();
        Matcher m = PLACES.matcher(source);
        while (m.find()) {
            int start = source.lastIndexOf('\n', m.start()) + 1;
            String line = source.substring(start, source.indexOf('\n', m.end() - 1));
            String trimmed = line.trim();
            if (trimmed.startsWith("//") || trimmed.startsWith("*") || trimmed.startsWith("/*") || line.contains("\"" ) && inText(line, m.start() - start)) {
                continue;
            }
            boolean constant = line.contains("static final");
            String s = m.group().trim();
            for (String now : instead(s, constant)) {
                all.add(m.group().startsWith(" ") ? new Change(m.start() + 1, m.end() - 1, now) : new Change(m.start(), m.end(), now));
            }
        }
        m = STATEMENT.matcher(source);
        while (m.find()) {
            all.add(new Change(m.start(), m.end(), ""));
        }
        return all;
    }

    /** Each part of a condition left out; each condition of an if or a ? that always holds, or never. */
    private static List<Change> conditions() {
        List<Change> all = new ArrayList<>();
        Matcher m = Pattern.compile(" (&&|\\|\\|) ").matcher(source);
        for (int at = 0; m.find(at); at = m.end() - 1) {
            all.add(new Change(m.start(), rightEnd(m.end()), ""));
            all.add(new Change(leftEnd(m.start(), true), m.end(), ""));
        }
        m = Pattern.compile(" \\? ").matcher(source);
        while (m.find()) {
            int from = leftEnd(m.start(), false);
            all.add(new Change(from, m.start(), "true"));
            all.add(new Change(from, m.start(), "false"));
        }
        m = Pattern.compile("\\bif \\(").matcher(source);
        while (m.find()) {
            int to = closing(m.end());
            all.add(new Change(m.end(), to, "true"));
            all.add(new Change(m.end(), to, "false"));
        }
        return all;
    }

    /** Where the ) is of the ( ahead of that place. */
    private static int closing(int from) {
        int depth = 1;
        int i = from;
        while (depth > 0) {
            depth += source.charAt(i) == '(' ? 1 : source.charAt(i) == ')' ? -1 : 0;
            i++;
        }
        return i - 1;
    }

    /** The end of a condition's part that begins there. */
    private static int rightEnd(int from) {
        int depth = 0;
        for (int i = from; ; i++) {
            char c = source.charAt(i);
            depth += c == '(' || c == '[' ? 1 : c == ')' || c == ']' ? -1 : 0;
            boolean ends = c == ';' || c == ',' || source.startsWith("&&", i) || source.startsWith("||", i) || source.startsWith("? ", i) || source.startsWith(": ", i);
            if (depth < 0 || depth == 0 && ends) {
                return source.charAt(i - 1) == ' ' ? i - 1 : i;
            }
        }
    }

    /** The begin of a condition, or of its last part, that ends there. */
    private static int leftEnd(int to, boolean part) {
        int depth = 0;
        for (int i = to - 1; ; i--) {
            char c = source.charAt(i);
            depth += c == ')' || c == ']' ? 1 : c == '(' || c == '[' ? -1 : 0;
            String ahead = source.substring(Math.max(0, i - 7), i + 1);
            boolean begins = c == ';' || ahead.endsWith(", ") || ahead.endsWith("return ") || ahead.endsWith(" = ") || ahead.endsWith("= ") && !ahead.endsWith("== ") && !ahead.endsWith("!= ") && !ahead.endsWith("<= ") && !ahead.endsWith(">= ")
                || ahead.endsWith("? ") || ahead.endsWith(": ") || part && (ahead.endsWith("&& ") || ahead.endsWith("|| "));
            if (depth < 0 || depth == 0 && begins) {
                int from = i + 1;
                while (Character.isWhitespace(source.charAt(from))) {
                    from++;
                }
                return from;
            }
        }
    }

    private static boolean inText(String line, int at) {
        int quotes = 0;
        for (int i = 0; i < at; i++) {
            quotes += line.charAt(i) == '"' ? 1 : 0;
        }
        return quotes % 2 == 1;
    }

    private static List<String> instead(String s, boolean constant) {
        switch (s) {
            case "<": return List.of("<=", ">=");
            case "<=": return List.of("<", ">");
            case ">": return List.of(">=", "<=");
            case ">=": return List.of(">", "<");
            case "==": return List.of("!=");
            case "!=": return List.of("==");
            case "&&": return List.of("||");
            case "||": return List.of("&&");
            case "+": return List.of("-");
            case "-": return List.of("+");
            case "!": return List.of("");
            case "true": return List.of("false");
            case "false": return List.of("true");
            default:
                long n = Long.parseLong(s);
                return constant && n < 100 && n != 12 ? List.of("" + (n + 1)) : List.of("" + (n + 1), "" + (n - 1));
        }
    }

    private static void compileTests(boolean runs) throws Exception {
        List<JavaFileObject> units = new ArrayList<>();
        units.add(unit("LinkHouse", source));
        try (Stream<Path> files = Files.list(Path.of("src/test/java"))) {
            for (Path p : (Iterable<Path>) files.sorted()::iterator) {
                String name = p.getFileName().toString().replace(".java", "");
                if (name.equals("RoomTest") || name.equals("RunsTest") && !runs) {
                    continue;
                }
                String text = Files.readString(p).replace("wrong++;", "if (true) { throw new IllegalStateException(what); }");
                units.add(unit(name, text));
                if (name.endsWith("Test")) {
                    MAINS.add(name);
                }
            }
        }
        if (!compile(units, TESTS)) {
            throw new IllegalStateException("the tests do not compile");
        }
    }

    private static JavaFileObject unit(String name, String text) {
        return new SimpleJavaFileObject(URI.create("string:///" + name + ".java"), JavaFileObject.Kind.SOURCE) {
            @Override
            public CharSequence getCharContent(boolean ignore) {
                return text;
            }
        };
    }

    private static boolean compile(List<JavaFileObject> units, Map<String, byte[]> made) {
        JavaFileManager files = new ForwardingJavaFileManager<JavaFileManager>(COMPILER.getStandardFileManager(null, null, null)) {
            @Override
            public JavaFileObject getJavaFileForOutput(Location where, String name, JavaFileObject.Kind kind, FileObject from) {
                return new SimpleJavaFileObject(URI.create("made:///" + name + ".class"), kind) {
                    @Override
                    public OutputStream openOutputStream() {
                        return new ByteArrayOutputStream() {
                            @Override
                            public void close() {
                                made.put(name, toByteArray());
                            }
                        };
                    }
                };
            }
        };
        return COMPILER.getTask(null, files, d -> { }, List.of("-nowarn"), null, units).call();
    }

    /** Nothing if all tests pass, else what does not. */
    private static String tried(String text) {
        Map<String, byte[]> made = new HashMap<>(TESTS);
        if (!compile(List.of(unit("LinkHouse", text)), made)) {
            return "it does not compile";
        }
        ClassLoader loader = new ClassLoader(null) {
            @Override
            protected Class<?> findClass(String name) throws ClassNotFoundException {
                byte[] b = made.get(name);
                if (b == null) {
                    return Mutants.class.getClassLoader().loadClass(name);
                }
                return defineClass(name, b, 0, b.length);
            }
        };
        String[] answer = {"it does not end"};
        Thread t = new Thread(null, () -> answer[0] = ran(loader), "mutant", 1 << 24);
        t.start();
        try {
            t.join(25_000);
        } catch (InterruptedException e) {
            return "interrupted";
        }
        if (t.isAlive()) {
            t.stop();
        }
        return answer[0];
    }

    private static String ran(ClassLoader loader) {
        for (String name : MAINS) {
            try {
                loader.loadClass(name).getMethod("main", String[].class).invoke(null, (Object) new String[0]);
            } catch (Throwable e) {
                return name + " " + e.getCause();
            }
        }
        return "";
    }
}
