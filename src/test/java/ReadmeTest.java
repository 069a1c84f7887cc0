import java.io.IOException;
import java.nio.file.Files;
import java.nio.file.Path;
import java.util.ArrayList;
import java.util.List;

/** README.md's example: the calls below are its lines, and each gives the answer that stands behind it there. */
public final class ReadmeTest {
    private static final Checks CHECKS = new Checks();
    private static List<String> lines;

    public static void main(String[] args) throws IOException {
        lines = exampleLines();
        HouseLog log = new HouseLog(16);
        line("HouseLog log = new HouseLog(16);", "");
        line("log.add(72);", log.add(72));
        line("log.add(105);", log.add(105));
        line("log.end(3, false);", log.end(3, false));
        line("log.sync();", log.sync());
        line("log.disk(1, 6);", log.disk(1, 6));
        line("log.poke(0, 6, 255);", log.poke(0, 6, 255));
        line("log.verify();", log.verify());
        line("log.start();", log.start());
        line("log.count(5);", log.count(5));
        line("log.verify();", log.verify());
        line("log.at(0, 1);", log.at(0, 1));
        line("log.end(4, false);", log.end(4, false));
        line("log.end(5, true);", log.end(5, true));
        line("log.cut(1, 10);", log.cut(1, 10));
        line("log.sync();", log.sync());
        line("log.look(0, 0);", Checks.outcome(() -> log.look(0, 0)).replace("java.lang.", ""));
        line("log.start();", log.start());
        line("log.look(1, 0);", log.look(1, 0));
        line("log.extract(0, 1);", log.extract(0, 1));
        CHECKS.due("extract by the document's sum", log.extract(0, 1), Checks.sum(3, 2, 72, 105, 4, 0));
        CHECKS.due("lines of the example that are left", lines.size(), 0);
        CHECKS.finish();
    }

    private static List<String> exampleLines() throws IOException {
        List<String> found = new ArrayList<>();
        boolean inside = false;
        for (String line : Files.readAllLines(Path.of("README.md"))) {
            if (line.startsWith("```")) {
                inside = line.equals("```java");
            } else if (inside && !line.isBlank()) {
                found.add(line);
            }
        }
        return found;
    }

    private static void line(String call, Object answer) {
        String line = lines.isEmpty() ? "" : lines.remove(0);
        String[] parts = line.split("//", 2);
        String told = parts.length < 2 ? "" : parts[1].split(":", 2)[0].strip();
        if (!parts[0].strip().equals(call) || !told.equals(answer.toString())) {
            CHECKS.tell(call + " answered " + answer + "; README.md has: " + line);
        }
    }
}
