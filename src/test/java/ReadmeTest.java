import java.io.IOException;
import java.lang.reflect.Method;
import java.lang.reflect.Modifier;
import java.nio.file.Files;
import java.nio.file.Path;
import java.util.Arrays;
import java.util.List;
import java.util.regex.Matcher;
import java.util.regex.Pattern;
import java.util.stream.Stream;

/** That what README.md tells of the class and of its tests is so. */
public final class ReadmeTest {
    private static final Pattern CALL = Pattern.compile("(?m)^chain\\.(\\w+)\\(([-\\d, ]*)\\); *// (-?\\d+): .*$");

    public static void main(String[] args) throws IOException, ReflectiveOperationException {
        String readme = Files.readString(Path.of("README.md"));
        run(readme);
        for (Method method : LockedChain.class.getDeclaredMethods()) {
            if (Modifier.isPublic(method.getModifiers())) {
                callIsTold(readme, method);
            }
        }
        for (String constant : List.of("BAD", "NO", "FULL", "NONE")) {
            int value = LockedChain.class.getField(constant).getInt(null);
            isTold(readme, "| `" + constant + "` (" + value + ") |");
        }
        try (var files = Files.newDirectoryStream(Path.of("src/test/java"), "*Test.java")) {
            for (Path file : files) {
                isTold(readme, "- `" + file.getFileName().toString().replace(".java", "") + "`:");
            }
        }
        Due.finish("ReadmeTest");
    }

    private static void isTold(String readme, String words) {
        Due.is("README.md tells " + words, readme.contains(words) ? 1 : 0, 1);
    }

    /** The run of calls that README.md shows, each with its answer behind it. */
    private static void run(String readme) throws ReflectiveOperationException {
        LockedChain chain = new LockedChain();
        Matcher call = CALL.matcher(readme);
        int calls = 0;
        while (call.find()) {
            Object[] numbers = listed(call.group(2)).map(Integer::valueOf).toArray();
            Class<?>[] types = new Class<?>[numbers.length];
            Arrays.fill(types, int.class);
            Method method = LockedChain.class.getMethod(call.group(1), types);
            Due.is(call.group(), (int) method.invoke(chain, numbers), Integer.parseInt(call.group(3)));
            calls++;
        }
        int lines = (int) readme.lines().filter(line -> line.startsWith("chain.")).count();
        Due.is("calls that tell their answer", calls, lines);
        Due.is("there are some", calls > 9 ? 1 : 0, 1);
    }

    private static Stream<String> listed(String numbers) {
        return Arrays.stream(numbers.split(", *")).filter(number -> !number.isEmpty());
    }

    private static void callIsTold(String readme, Method method) {
        Matcher row = Pattern.compile("(?m)^\\| `" + method.getName() + "\\(([\\w, ]*)\\)` \\| ").matcher(readme);
        boolean isTold = row.find();
        Due.is("a row tells " + method.getName(), isTold ? 1 : 0, 1);
        if (isTold) {
            int numbers = (int) listed(row.group(1)).count();
            Due.is("how many numbers it takes", numbers, method.getParameterCount());
        }
    }
}
