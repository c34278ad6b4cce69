import java.io.IOException;
import java.lang.reflect.Executable;
import java.lang.reflect.Field;
import java.lang.reflect.Modifier;
import java.nio.file.Files;
import java.nio.file.Path;
import java.util.ArrayList;
import java.util.Arrays;
import java.util.List;
import java.util.regex.Matcher;
import java.util.regex.Pattern;

/** What of LANGUAGE.md can be seen from the class and its text; FaceTest looks at rule 1. */
public final class LanguageTest {
    private static final String[] OUTSIDE = {
        "\\bimport\\b", "\\bpackage\\b", "->", "::", "\\bsynchronized\\b", "\\bassert\\b", "\\bfinally\\b", "\\btry\\b",
        "\\bcatch\\b", "\\bthrows?\\b", "\\bvar\\b", "\\bSystem\\b(?!\\.arraycopy)", "\\bThread\\b", "\\bObject\\b",
        "\\bequals\\b", "\\bhashCode\\b", "\\btoString\\b", "\\bstatic \\{", "\\w+Exact\\b", "\\bjava\\.",
    };
    private static final Due due = new Due();

    public static void main(String[] args) throws IOException {
        String text = Files.readString(Path.of("src", "main", "java", "GeoThreads.java"));
        String code = text.replaceAll("(?s)/\\*.*?\\*/|//[^\\n]*", "");
        due.part("words outside the language");
        for (String word : OUTSIDE) {
            Matcher found = Pattern.compile(word).matcher(code);
            due.is(word, found.find() ? 1 : 0, 0);
        }
        due.part("rules 5 and 11");
        List<Class<?>> classes = new ArrayList<>(Arrays.asList(GeoThreads.class.getDeclaredClasses()));
        classes.add(GeoThreads.class);
        due.is("twelve classes at most, " + classes.size(), classes.size() <= 12 ? 1 : 0, 1);
        for (Class<?> each : classes) look(each);
        methodLines(code);
        due.end();
    }

    private static void look(Class<?> each) {
        int fields = 0;
        for (Field field : each.getDeclaredFields()) {
            if (!Modifier.isStatic(field.getModifiers())) fields++;
            else due.is("final " + field, Modifier.isFinal(field.getModifiers()) ? 1 : 0, 1);
        }
        due.is("twenty fields at most: " + each + " has " + fields, fields <= 20 ? 1 : 0, 1);
        List<Executable> all = new ArrayList<>(Arrays.asList(each.getDeclaredMethods()));
        all.addAll(Arrays.asList(each.getDeclaredConstructors()));
        for (Executable one : all) due.is("seven parameters at most: " + one, one.getParameterCount() <= 7 ? 1 : 0, 1);
    }

    /** A method's first line ends with ") {" and begins with its type; it ends where a brace stands as far in. */
    private static void methodLines(String code) {
        Matcher head = Pattern.compile("(?m)^( +)(?!if|for|while|switch|else|\\})[A-Za-z][^;=\\n]*\\) \\{$").matcher(code);
        int methods = 0;
        while (head.find()) {
            methods++;
            int end = code.indexOf("\n" + head.group(1) + "}", head.end());
            long lines = code.substring(head.start(), end).lines().count();
            due.is("sixty lines at most: " + head.group().trim() + " " + lines, lines <= 60 ? 1 : 0, 1);
        }
        due.is("there are methods", methods > 50 ? 1 : 0, 1);
    }
}
