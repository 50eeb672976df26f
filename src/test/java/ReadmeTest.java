import java.io.IOException;
import java.lang.reflect.Method;
import java.lang.reflect.Modifier;
import java.nio.file.Files;
import java.nio.file.Path;
import java.util.ArrayList;
import java.util.Arrays;
import java.util.List;
import java.util.regex.Matcher;
import java.util.regex.Pattern;

/** README.md: its example answers what it says, and it names every call; run from the project's root. */
public final class ReadmeTest {
    private static final Due DUE = new Due();
    private static final Pattern TEXT = Pattern.compile("letter : \"([^\"]*)\"");
    private static final Pattern CALL = Pattern.compile("(?m)^x\\.(\\w+)\\(([^)]*)\\); +// (-?\\d+):");
    private static final Pattern ROW = Pattern.compile("(?m)^\\| `(\\w+)\\(([^)]*)\\)` \\|");

    public static void main(String[] args) throws IOException, ReflectiveOperationException {
        String page = Files.readString(Path.of("README.md"));
        example(page);
        everyCall(page);
        DUE.end("ReadmeTest");
    }

    private static void example(String page) throws ReflectiveOperationException {
        Matcher text = TEXT.matcher(page);
        DUE.holds("the example has a text", text.find());
        QuiltPatches x = new QuiltPatches();
        Due.type(x, text.group(1));
        Matcher call = CALL.matcher(page);
        int calls = 0;
        while (call.find()) {
            DUE.is(call.group(1) + "(" + call.group(2) + ")", ask(x, call.group(1), numbers(call.group(2))),
                Integer.parseInt(call.group(3)));
            calls++;
        }
        DUE.is("every line of the example has its answer", calls, (int) page.lines().filter(l -> l.startsWith("x.")).count());
        DUE.holds("there are such lines", calls > 0);
    }

    private static Object[] numbers(String arguments) {
        return Arrays.stream(arguments.split(",")).map(String::trim).filter(a -> !a.isEmpty()).map(Integer::valueOf).toArray();
    }

    private static int ask(QuiltPatches x, String name, Object[] numbers) throws ReflectiveOperationException {
        Class<?>[] types = new Class<?>[numbers.length];
        Arrays.fill(types, int.class);
        return (Integer) QuiltPatches.class.getMethod(name, types).invoke(x, numbers);
    }

    private static void everyCall(String page) {
        List<String> rows = new ArrayList<>();
        Matcher row = ROW.matcher(page);
        while (row.find()) {
            rows.add(row.group(1) + numbersOf(row.group(2)));
        }
        int calls = 0;
        for (Method m : QuiltPatches.class.getDeclaredMethods()) {
            if (Modifier.isPublic(m.getModifiers())) {
                calls++;
                DUE.holds("a row for " + m.getName(), rows.contains(m.getName() + m.getParameterCount()));
            }
        }
        DUE.is("a row for each call, and no more", rows.size(), calls);
    }

    private static int numbersOf(String parameters) {
        return parameters.isEmpty() ? 0 : parameters.split(",").length;
    }
}
