import java.lang.reflect.Method;
import java.lang.reflect.Modifier;
import java.nio.file.Files;
import java.nio.file.Path;
import java.util.Arrays;
import java.util.regex.Matcher;
import java.util.regex.Pattern;

/** README.md: its example answers what it says, and it names every call, every constant and every test. */
public final class ReadmeTest {
    private static final Pattern TEXT = Pattern.compile("\"([^\"]*)\"\\.toCharArray");
    private static final Pattern CALL = Pattern.compile("(?m)^keeper\\.(\\w+)\\(([-0-9, ]*)\\);\\s*// (-?\\d+)");
    private static final Check CHECK = new Check();

    public static void main(String[] args) throws Exception {
        String readme = Files.readString(Path.of("README.md"));
        example(readme);
        for (Method method : JoinKeeper.class.getDeclaredMethods()) {
            if (Modifier.isPublic(method.getModifiers())) {
                CHECK.holds("the call " + method.getName() + " is told", readme.contains("| `" + method.getName() + "("));
            }
        }
        for (String constant : new String[] {"DONE", "REFUSED", "BAD", "LARGE", "NONE"}) {
            CHECK.holds("the constant " + constant + " is told", readme.contains("`" + constant + "`"));
        }
        for (String test : Path.of("src/test/java").toFile().list()) {
            CHECK.holds("the test " + test + " is told", readme.contains("`" + test.replace(".java", "") + "`"));
        }
        CHECK.end();
    }

    private static void example(String readme) throws Exception {
        Matcher text = TEXT.matcher(readme);
        CHECK.holds("the example has a text", text.find());
        JoinKeeper keeper = Check.with(text.group(1));
        Matcher call = CALL.matcher(readme);
        int calls = 0;
        while (call.find()) {
            Object[] numbers = Arrays.stream(call.group(2).split(", *")).filter(number -> !number.isEmpty())
                .map(Integer::valueOf).toArray();
            Class<?>[] types = new Class<?>[numbers.length];
            Arrays.fill(types, int.class);
            Method method = JoinKeeper.class.getMethod(call.group(1), types);
            long got = ((Number) method.invoke(keeper, numbers)).longValue();
            CHECK.due("the example's " + call.group(), got, Long.parseLong(call.group(3)));
            calls++;
        }
        CHECK.holds("the example has calls", calls >= 6);
    }
}
