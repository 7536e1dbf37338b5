import java.io.IOException;
import java.lang.reflect.Method;
import java.nio.file.DirectoryStream;
import java.nio.file.Files;
import java.nio.file.Path;
import java.util.regex.Matcher;
import java.util.regex.Pattern;

/** What README.md shows holds: the answers told in its sample, and the list of the tests. */
public final class ReadmeTest {
    public static void main(String[] args) throws IOException, ReflectiveOperationException {
        String readme = Files.readString(Path.of("README.md"));
        sample(readme);
        listsEveryTest(readme);
        Checks.end();
    }

    private static void sample(String readme) throws ReflectiveOperationException {
        Matcher text = Pattern.compile("String text = \"([^\"]*)\";").matcher(readme);
        Checks.due("README.md has a sample with a text", text.find() ? 1 : 0, 1);
        StringsSheet x = new StringsSheet();
        Checks.feed(x, text.group(1));
        Matcher calls = Pattern.compile("(?m)^x\\.(\\w+)\\(([-\\d, ]*)\\);( *// (-?\\d+)?)?").matcher(readme);
        int told = 0;
        while (calls.find()) {
            long got = call(x, calls.group(1), calls.group(2));
            if (calls.group(4) != null) {
                Checks.due(calls.group(), got, Long.parseLong(calls.group(4)));
                told++;
            }
        }
        Checks.due("README.md tells some answers", told > 4 ? 1 : 0, 1);
    }

    private static long call(StringsSheet x, String name, String numbers) throws ReflectiveOperationException {
        String[] parts = numbers.isBlank() ? new String[0] : numbers.split(", *");
        for (Method m : StringsSheet.class.getMethods()) {
            if (m.getName().equals(name) && m.getParameterCount() == parts.length) {
                Object[] given = new Object[parts.length];
                for (int k = 0; k < parts.length; k++) {
                    given[k] = Integer.parseInt(parts[k]);
                }
                return ((Number) m.invoke(x, given)).longValue();
            }
        }
        throw new NoSuchMethodException("README.md calls " + name);
    }

    private static void listsEveryTest(String readme) throws IOException {
        try (DirectoryStream<Path> files = Files.newDirectoryStream(Path.of("src/test/java"), "*Test.java")) {
            for (Path file : files) {
                String name = file.getFileName().toString().replace(".java", "");
                Checks.due("README.md lists " + name, readme.contains("| `" + name + "` |") ? 1 : 0, 1);
            }
        }
    }
}
