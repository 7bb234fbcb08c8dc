import java.io.IOException;
import java.nio.file.Files;
import java.nio.file.Path;
import java.util.ArrayList;
import java.util.HashSet;
import java.util.List;
import java.util.Set;
import java.util.regex.Matcher;
import java.util.regex.Pattern;

/** README.md tells a text and calls with their answers: they are so, and no call of the face is left out. */
final class ReadmeTest {
    private static final Pattern TEXT = Pattern.compile("```text\n(.*?)```", Pattern.DOTALL);
    private static final Pattern CALL = Pattern.compile("(?m)^x\\.(\\w+)\\((.*?)\\); +// ([-\\w.]+)");

    private ReadmeTest() {
    }

    public static void main(String[] args) throws IOException, ReflectiveOperationException {
        String readme = Files.readString(Path.of("README.md"));
        Matcher text = TEXT.matcher(readme);
        if (!text.find()) {
            Check.fail("README.md tells no text");
            Check.end();
            return;
        }
        Replay replay = new Replay("README.md");
        Set<String> told = new HashSet<>();
        replayCalls(replay, readme.substring(0, text.start()), told);
        replay.tell(text.group(1), "8");
        replayCalls(replay, readme.substring(text.end()), told);
        Check.due("calls of the face that are told: " + told, 47, told::size);
        Check.end();
    }

    private static void replayCalls(Replay replay, String part, Set<String> told) throws ReflectiveOperationException {
        Matcher call = CALL.matcher(part);
        while (call.find()) {
            told.add(call.group(1));
            replay.call(words(call), call.group(3));
        }
    }

    private static String[] words(Matcher call) {
        List<String> words = new ArrayList<>();
        words.add(call.group(1));
        for (String argument : call.group(2).split(", *")) {
            words.add(argument);
        }
        return words.toArray(new String[0]);
    }
}
