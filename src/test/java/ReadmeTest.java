import java.io.IOException;
import java.nio.file.Files;
import java.nio.file.Path;
import java.util.List;

/** The example of README.md answers what is written there behind it (run in the project's directory). */
public final class ReadmeTest {
    private static final Due due = new Due();
    private static int line = 0;

    public static void main(String[] args) throws IOException {
        List<String> lines = Files.readAllLines(Path.of("README.md")).stream()
            .filter(s -> s.startsWith("x.")).toList();
        BlockTape x = new BlockTape();
        says(lines, "x.feed(0x61626364, 4)", x.feed(0x61626364, 4));
        says(lines, "x.put(1, 2)", x.put(1, 2));
        says(lines, "x.count(4)", x.count(4));
        says(lines, "x.close()", x.close());
        says(lines, "x.count(4)", x.count(4));
        says(lines, "x.read(0, 2)", x.read(0, 2));
        says(lines, "x.read(0, 4)", x.read(0, 4));
        says(lines, "x.read(0, 8)", x.read(0, 8));
        says(lines, "x.spoil(0, 8, 1)", x.spoil(0, 8, 1));
        says(lines, "x.verify(0)", x.verify(0));
        says(lines, "x.count(4)", x.count(4));
        says(lines, "x.heal(0)", x.heal(0));
        says(lines, "x.count(4)", x.count(4));
        due.is("lines of the example", lines.size(), line);
        due.end();
    }

    /** The next line of the example is this call, and its comment begins with this answer. */
    private static void says(List<String> lines, String call, Object answer) {
        String got = line < lines.size() ? lines.get(line) : "";
        line++;
        boolean same = got.startsWith(call + ";") && got.matches(".*// " + answer + "(:.*)?");
        due.is("README.md, \"" + got + "\" for " + call + " = " + answer, same, true);
    }
}
