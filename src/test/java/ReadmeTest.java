import java.io.IOException;
import java.lang.reflect.Method;
import java.nio.file.Files;
import java.nio.file.Path;
import java.util.Arrays;
import java.util.regex.Matcher;
import java.util.regex.Pattern;

/** The example of README.md: its calls are made in turn, and those that print answer what stands behind "//". */
public final class ReadmeTest {
    private static final Pattern CALL = Pattern.compile("bench\\.(\\w+)\\(([-0-9, ]*)\\)");
    private static final Pattern ANSWER = Pattern.compile("println.*// *([^: ]+)");

    private ReadmeTest() {
    }

    public static void main(String[] args) throws IOException, ReflectiveOperationException {
        MacroBench bench = new MacroBench();
        for (String line : exampleOf(Files.readString(Path.of("README.md")))) {
            Matcher call = CALL.matcher(line);
            boolean isOfFault = line.contains("bench.fault()");
            if (call.find() && !isOfFault) {
                Object got = make(bench, call.group(1), call.group(2));
                Matcher due = ANSWER.matcher(line);
                if (due.find()) {
                    Check.same(call.group(), due.group(1), String.valueOf(got));
                }
            }
        }
        Check.same("the example's lines", 10, bench.lines());
        Check.same("the example's fault", 'n', bench.fault());
        Check.finish();
    }

    private static String[] exampleOf(String readme) {
        String begin = "```java\n";
        int from = readme.indexOf(begin) + begin.length();
        return readme.substring(from, readme.indexOf("```", from)).split("\n");
    }

    private static Object make(MacroBench bench, String name, String numbers) throws ReflectiveOperationException {
        Object[] given = Arrays.stream(numbers.split(", ")).filter(number -> !number.isEmpty()).map(Integer::valueOf)
            .toArray();
        Class<?>[] types = new Class<?>[given.length];
        Arrays.fill(types, int.class);
        Method method = MacroBench.class.getMethod(name, types);
        return method.invoke(bench, given);
    }
}
