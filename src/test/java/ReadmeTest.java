import java.lang.reflect.Method;
import java.lang.reflect.Modifier;
import java.nio.file.Files;
import java.nio.file.Path;
import java.util.Arrays;
import java.util.regex.Matcher;
import java.util.regex.Pattern;

/** What README.md shows is so. .ci/run starts it in the project's folder. */
public final class ReadmeTest {
    private static final Pattern CALL = Pattern.compile("(?m)^x\\.(\\w+)\\(([-0-9, ]*)\\);\\s*// (-?\\d+):");
    private static final Pattern TEXT = Pattern.compile("`(bus [^`]*;)`");

    public static void main(String[] args) throws Exception {
        String readme = Files.readString(Path.of("README.md"));
        callsAnswerAsShown(readme);
        textsCanBeRead(readme);
        everyCallIsNamed(readme);
        Due.end();
    }

    private static void callsAnswerAsShown(String readme) throws Exception {
        IdeasDeck x = new IdeasDeck();
        int shown = 0;
        for (Matcher m = CALL.matcher(readme); m.find(); shown++) {
            Due.is("README: " + m.group(1) + "(" + m.group(2) + ")", call(x, m.group(1), numbers(m.group(2))),
                Long.parseLong(m.group(3)));
        }
        Due.is("all lines of the example are calls with an answer",
            readme.lines().filter(line -> line.startsWith("x.")).count(), shown);
        Due.isTrue("README shows calls", shown > 0);
    }

    private static Object[] numbers(String told) {
        return Arrays.stream(told.split(",")).map(String::trim).filter(one -> !one.isEmpty()).map(Integer::valueOf)
            .toArray();
    }

    private static long call(IdeasDeck x, String name, Object[] numbers) throws Exception {
        Class<?>[] types = new Class<?>[numbers.length];
        Arrays.fill(types, int.class);
        return ((Number) IdeasDeck.class.getMethod(name, types).invoke(x, numbers)).longValue();
    }

    private static void textsCanBeRead(String readme) {
        int shown = 0;
        for (Matcher m = TEXT.matcher(readme); m.find(); shown++) {
            IdeasDeck x = new IdeasDeck();
            Buses.tell(x, m.group(1));
            Due.is("README: " + m.group(1), x.read(), m.group(1).chars().filter(c -> c == ';').count());
        }
        Due.isTrue("README shows a text", shown > 0);
    }

    private static void everyCallIsNamed(String readme) {
        for (Method m : IdeasDeck.class.getDeclaredMethods()) {
            if (!Modifier.isPublic(m.getModifiers())) continue;
            Due.isTrue("README names " + m.getName(), readme.contains("`" + m.getName() + "`"));
        }
    }
}
