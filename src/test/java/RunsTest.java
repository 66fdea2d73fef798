import java.io.IOException;
import java.lang.reflect.Method;
import java.nio.charset.StandardCharsets;
import java.nio.file.Files;
import java.nio.file.Path;
import java.util.List;
import java.util.stream.Collectors;
import java.util.stream.Stream;

/** Long runs in src/test/runs, whose answers tools/ref.py gave: NEW, TAPE and its bytes, OUT and what it is, or a call and what is due. */
public final class RunsTest {
    public static void main(String[] args) throws Exception {
        List<Path> files;
        try (Stream<Path> all = Files.list(Path.of("src/test/runs"))) {
            files = all.sorted().collect(Collectors.toList());
        }
        Check.due("there are runs", files.isEmpty() ? 0 : 1, 1);
        for (Path file : files) {
            rerun(file);
        }
        Check.end("RunsTest");
    }

    private static void rerun(Path file) throws IOException, ReflectiveOperationException {
        Check c = new Check();
        int at = 0;
        for (String line : Files.readAllLines(file, StandardCharsets.ISO_8859_1)) {
            at++;
            String where = file.getFileName() + ":" + at + " " + line;
            if (line.startsWith("TAPE ")) {
                c.tape(line.substring(5).replace("\\n", "\n"));
            } else if (line.startsWith("OUT ")) {
                Check.due(where, c.out(), line.substring(4));
            } else if (line.contains(" = ")) {
                int equals = line.indexOf(" = ");
                Check.due(where, call(c.x, line.substring(0, equals).split(" ")), Integer.parseInt(line.substring(equals + 3)));
            }
        }
    }

    private static int call(LinkHouse x, String[] words) throws ReflectiveOperationException {
        Class<?>[] types = new Class<?>[words.length - 1];
        Object[] numbers = new Object[words.length - 1];
        for (int i = 1; i < words.length; i++) {
            types[i - 1] = int.class;
            numbers[i - 1] = Integer.parseInt(words[i]);
        }
        Method m = LinkHouse.class.getMethod(words[0], types);
        return (int) m.invoke(x, numbers);
    }
}
