import java.io.IOException;
import java.lang.reflect.Method;
import java.lang.reflect.Modifier;
import java.nio.file.Files;
import java.nio.file.Path;
import java.util.ArrayList;
import java.util.HashSet;
import java.util.List;
import java.util.Set;
import java.util.regex.Matcher;
import java.util.regex.Pattern;
import java.util.stream.Stream;

/** What README.md says: each call in its examples has the answer that stands behind it, and nothing is left out. */
public final class ReadmeTests {
    private static final Path README = Path.of("README.md");
    private static final String NEW_OBJECT = "BinderPress x = new BinderPress();";
    private static final Pattern FEED_ALL = Pattern.compile(
        "for \\(char c : \"([^\"\\\\]*)\"\\.toCharArray\\(\\)\\) \\{ x\\.feed\\(c\\); \\}");
    private static final Pattern CALL = Pattern.compile(
        "x\\.(\\w+)\\(([^)]*|'.')\\); +// (-?\\d+|[A-Z]+)(: .*)?");
    private static final Pattern WRITTEN = Pattern.compile("shelf (\\d) (has|is of kind) ([^ ,;]+)");
    private static final Pattern CONSTANT = Pattern.compile("\\| `([A-Z]+)` \\| (-?\\d+) \\|.*");
    private static final Pattern TOLD_CALL = Pattern.compile("\\| `(\\w+)\\(([\\w, ]*)\\)` \\|.*");

    private static final Set<String> called = new HashSet<>();
    private static int looked = 0;
    private static int wrong = 0;

    private static void look(boolean good, String what) {
        looked++;
        if (!good) {
            wrong++;
            System.out.println(what);
        }
    }

    private static int numberOf(String word) throws ReflectiveOperationException {
        if (word.matches("'.'")) {
            return word.charAt(1);
        }
        boolean isConstant = word.matches("[A-Z]+");
        return isConstant ? BinderPress.class.getField(word).getInt(null) : Integer.parseInt(word);
    }

    private static Method methodOf(String name) {
        for (Method m : BinderPress.class.getDeclaredMethods()) {
            if (Modifier.isPublic(m.getModifiers()) && m.getName().equals(name)) {
                return m;
            }
        }
        return null;
    }

    private static void lookAtCall(BinderPress x, Matcher line) throws ReflectiveOperationException {
        String[] words = line.group(2).isEmpty() ? new String[0] : line.group(2).split(", ");
        Method method = methodOf(line.group(1));
        if (method == null || method.getParameterCount() != words.length) {
            look(false, "there is no such call: " + line.group());
            return;
        }
        Object[] numbers = new Object[words.length];
        for (int i = 0; i < words.length; i++) {
            numbers[i] = numberOf(words[i]);
        }
        int answer = (int) method.invoke(x, numbers);
        look(answer == numberOf(line.group(3)), line.group() + " / answered " + answer);
        called.add(method.getName());
        lookAtWritten(x, line.group());
    }

    /** What a line says of a shelf behind the call. */
    private static void lookAtWritten(BinderPress x, String line) {
        Matcher said = WRITTEN.matcher(line);
        while (said.find()) {
            int s = Integer.parseInt(said.group(1));
            String written = said.group(2).equals("has") ? termOf(x, s) : kindOf(x, s);
            look(written.equals(said.group(3)), line + " / it is " + written);
        }
    }

    private static String termOf(BinderPress x, int s) {
        StringBuilder b = new StringBuilder();
        for (int c = x.sign(s, 0); c >= 0; c = x.sign(s, b.length())) {
            b.append((char) c);
        }
        return b.toString();
    }

    private static String kindOf(BinderPress x, int s) {
        StringBuilder b = new StringBuilder();
        for (int c = x.kind(s, 0); c >= 0; c = x.kind(s, b.length())) {
            b.append((char) c);
        }
        return b.toString();
    }

    /** An example is Java of three forms alone, so that it is what it seems to be; a line of another form is wrong. */
    private static void lookAtExample(List<String> lines) throws ReflectiveOperationException {
        look(!lines.isEmpty() && lines.get(0).equals(NEW_OBJECT), "an example begins without a new object");
        BinderPress x = new BinderPress();
        for (int i = 1; i < lines.size(); i++) {
            Matcher all = FEED_ALL.matcher(lines.get(i));
            Matcher call = CALL.matcher(lines.get(i));
            if (all.matches()) {
                for (char c : all.group(1).toCharArray()) {
                    x.feed(c);
                }
            } else if (call.matches()) {
                lookAtCall(x, call);
            } else {
                look(false, "this line was not looked at: " + lines.get(i));
            }
        }
    }

    private static void lookAtExamples(List<String> readme) throws ReflectiveOperationException {
        int examples = 0;
        for (int i = 0; i < readme.size(); i++) {
            if (readme.get(i).equals("```java")) {
                List<String> lines = new ArrayList<>();
                for (i++; i < readme.size() && !readme.get(i).equals("```"); i++) {
                    lines.add(readme.get(i));
                }
                lookAtExample(lines);
                examples++;
            }
        }
        look(examples > 0, "there is no example");
    }

    private static void lookAtTables(List<String> readme) throws ReflectiveOperationException {
        Set<String> constants = new HashSet<>();
        Set<String> calls = new HashSet<>();
        for (String line : readme) {
            Matcher constant = CONSTANT.matcher(line);
            Matcher call = TOLD_CALL.matcher(line);
            if (constant.matches()) {
                constants.add(constant.group(1));
                look(numberOf(constant.group(1)) == Integer.parseInt(constant.group(2)), "it is another number: " + line);
            } else if (call.matches()) {
                calls.add(call.group(1));
                int words = call.group(2).isEmpty() ? 0 : call.group(2).split(", ").length;
                Method method = methodOf(call.group(1));
                look(method != null && method.getParameterCount() == words, "there is no such call: " + line);
            }
        }
        look(constants.size() == BinderPress.class.getFields().length, "the page does not name each constant");
        for (Method m : BinderPress.class.getDeclaredMethods()) {
            if (Modifier.isPublic(m.getModifiers())) {
                look(calls.contains(m.getName()), "the page does not tell what this call does: " + m.getName());
                look(called.contains(m.getName()), "no example has this call: " + m.getName());
            }
        }
    }

    private static void lookAtTests(String page) throws IOException {
        look(page.contains("`.ci/run`"), "the page does not tell how the tests are run");
        try (Stream<Path> tests = Stream.concat(Files.list(Path.of("src/test/java")), Files.list(Path.of("src/test/help")))) {
            for (Path test : tests.toList()) {
                String name = test.getFileName().toString().replace(".java", "");
                look(page.contains(name), "the page does not name " + name);
            }
        }
        Matcher file = Pattern.compile("`((?:src|\\.ci|\\.\\./shared)/[^`*]*)`").matcher(page);
        while (file.find()) {
            look(Files.exists(Path.of(file.group(1))), "there is no " + file.group(1));
        }
    }

    public static void main(String[] args) throws Exception {
        List<String> readme = Files.readAllLines(README);
        lookAtExamples(readme);
        lookAtTables(readme);
        lookAtTests(String.join("\n", readme));
        System.out.println(looked + " looked at, " + wrong + " not as README.md says");
        if (wrong != 0) {
            System.exit(1);
        }
    }
}
