import java.lang.reflect.Method;
import java.lang.reflect.Modifier;
import java.nio.file.Files;
import java.nio.file.Path;
import java.util.regex.Matcher;
import java.util.regex.Pattern;

/** The calls that README.md shows answer what it says behind them, and it names every call of the face. */
public final class ReadmeTest {
    private static final Pattern MADE = Pattern.compile("GeoThreads x = new GeoThreads\\((\\d+), (\\d+)\\);");
    private static final Pattern CALL = Pattern.compile("^x\\.(\\w+)\\((.*?)\\); +// (-?\\d+)\\b");
    private static final Due due = new Due();

    public static void main(String[] args) throws Exception {
        String readme = Files.readString(Path.of("README.md"));
        due.part("README.md");
        showsWhatIsSo(readme);
        namesEveryCall(readme);
        due.end();
    }

    private static void showsWhatIsSo(String readme) throws Exception {
        Matcher made = MADE.matcher(readme);
        due.is("an object is made", made.find() ? 1 : 0, 1);
        GeoThreads x = new GeoThreads(Integer.parseInt(made.group(1)), Integer.parseInt(made.group(2)));
        int calls = 0;
        for (String line : readme.split("\n")) {
            if (!line.startsWith("x.")) continue;
            Matcher call = CALL.matcher(line);
            boolean whole = call.find();
            due.is(line + " (a call with its answer)", whole ? 1 : 0, 1);
            if (whole) due.is(line, answerOf(x, call.group(1), call.group(2)), Long.parseLong(call.group(3)));
            calls++;
        }
        due.is("there are calls", calls > 10 ? 1 : 0, 1);
    }

    private static long answerOf(GeoThreads x, String name, String written) throws Exception {
        String[] words = written.isEmpty() ? new String[0] : written.split(", ");
        Method method = methodOf(name);
        Class<?>[] types = method.getParameterTypes();
        due.is(name + " (how many arguments)", words.length, types.length);
        Object[] values = new Object[types.length];
        for (int i = 0; i < types.length; i++) values[i] = valueOf(words[i], types[i]);
        return ((Number) method.invoke(x, values)).longValue();
    }

    private static Method methodOf(String name) {
        for (Method each : GeoThreads.class.getDeclaredMethods()) if (each.getName().equals(name)) return each;
        throw new IllegalArgumentException("README.md shows a call that there is not: " + name);
    }

    private static Object valueOf(String word, Class<?> type) {
        if (type == boolean.class) return Boolean.valueOf(word);
        if (type == long.class) return Long.valueOf(word);
        return Integer.valueOf(word);
    }

    private static void namesEveryCall(String readme) {
        for (Method each : GeoThreads.class.getDeclaredMethods()) {
            if (!Modifier.isPublic(each.getModifiers())) continue;
            due.is("names " + each.getName(), readme.contains("`" + each.getName() + "`") ? 1 : 0, 1);
        }
    }
}
