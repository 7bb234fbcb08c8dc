import java.io.IOException;
import java.nio.file.DirectoryStream;
import java.nio.file.Files;
import java.nio.file.Path;

/**
 * The runs under src/test/runs, whose answers come from a brute-force model that shares no code with the class or with
 * Model. A row is a call with its arguments, " = " and the answer; "tell" is a text that is fed and read,
 * with a backslash and two hexadecimal digits for signs that can't be seen.
 */
final class RecordedTest {
    private static final Path RUNS = Path.of("src/test/runs");

    private RecordedTest() {
    }

    public static void main(String[] args) throws IOException, ReflectiveOperationException {
        int runs = 0;
        try (DirectoryStream<Path> files = Files.newDirectoryStream(RUNS, "*.txt")) {
            for (Path file : files) {
                replay(file);
                runs++;
            }
        }
        if (runs == 0) {
            Check.fail("no run stands under " + RUNS);
        }
        Check.end();
    }

    private static void replay(Path file) throws IOException, ReflectiveOperationException {
        Replay replay = new Replay(file.getFileName().toString());
        for (String row : Files.readAllLines(file)) {
            int end = row.lastIndexOf(" = ");
            String call = row.substring(0, end);
            String due = row.substring(end + 3);
            if (call.startsWith("tell ")) {
                replay.tell(text(call.substring(5)), due);
            } else {
                replay.call(call.split(" "), due);
            }
        }
    }

    private static String text(String written) {
        StringBuilder signs = new StringBuilder();
        for (int i = 0; i < written.length(); i++) {
            char sign = written.charAt(i);
            if (sign == '\\') {
                sign = (char) Integer.parseInt(written.substring(i + 1, i + 3), 16);
                i += 2;
            }
            signs.append(sign);
        }
        return signs.toString();
    }
}
