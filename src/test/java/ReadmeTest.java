import java.nio.file.Files;
import java.nio.file.Path;
import java.util.Arrays;
import java.util.regex.Matcher;
import java.util.regex.Pattern;
import java.util.stream.Stream;

/** What README.md says of its example is what the calls answer, and its table names every test that there is. */
public final class ReadmeTest {
    private static final Pattern TEXT = Pattern.compile("String text = \"([^\"]+)\";");
    private static final Pattern CALL = Pattern.compile("(?m)^x\\.(\\w+)\\((.*)\\); +// (-?\\d+):");

    public static void main(String[] args) throws Exception {
        String readme = Files.readString(Path.of("README.md"));
        example(readme);
        try (Stream<Path> files = Files.list(Path.of("src/test/java"))) {
            files.map(file -> file.getFileName().toString().replace(".java", ""))
                .filter(name -> name.endsWith("Test"))
                .forEach(name -> Check.due("README.md names " + name, readme.contains("`" + name + "`") ? 1 : 0, 1));
        }
        Check.end("ReadmeTest");
    }

    private static void example(String readme) {
        Matcher told = TEXT.matcher(readme);
        Check.due("README.md tells a text", told.find() ? 1 : 0, 1);
        String text = told.group(1);
        FourVault x = new FourVault();
        Check.row(x, 0, 0, Check.codes(text));
        int calls = 0;
        for (Matcher call = CALL.matcher(readme); call.find(); calls++) {
            String given = call.group(2).replace("text.length()", Integer.toString(text.length()));
            int[] numbers = Arrays.stream(given.split(", ")).mapToInt(Integer::parseInt).toArray();
            Check.due(call.group(), Scene.ask(x, call.group(1), numbers), Long.parseLong(call.group(3)));
        }
        Check.due("calls of the example", calls, 5);
    }
}
