import java.io.IOException;
import java.lang.reflect.Constructor;
import java.lang.reflect.Field;
import java.lang.reflect.Method;
import java.lang.reflect.Modifier;
import java.nio.file.Files;
import java.nio.file.Path;
import java.util.Arrays;
import java.util.List;
import java.util.Set;
import java.util.TreeSet;
import java.util.regex.Matcher;
import java.util.regex.Pattern;

/** The face of the class, what LANGUAGE.md rules out and can be seen in the file, and how much room an object takes. */
public final class LanguageTests {
    private static final String FILE = "src/main/java/BinderPress.java";
    private static final List<String> METHODS = List.of("feed int", "term int", "fault", "compile int", "takeOut int int",
        "put int int int", "putIn int int int", "work int int int", "drop int", "drift int int int", "undo", "told int",
        "of int int", "sign int int", "kind int int", "steps int int", "same int int", "sameKind int int", "keep int",
        "goBack int");
    private static final List<String> CONSTANTS = List.of("NONE", "UNKNOWN", "OUTSIDE", "NOT", "FULL");
    private static final List<String> RULED_OUT = List.of("throw", "try", "catch", "synchronized", "assert", "import",
        "package", "native", "volatile", "transient", "->", "::", "Thread", "Random", "hashCode", "toString",
        "Exact", "protected");

    private static int wrong = 0;

    private static void look(boolean good, String what) {
        if (!good) {
            wrong++;
            System.out.println(what);
        }
    }

    private static void lookAtFace() {
        Class<?> c = BinderPress.class;
        look(Modifier.isPublic(c.getModifiers()) && Modifier.isFinal(c.getModifiers()), "the class is not public and final");
        Set<String> found = new TreeSet<>();
        Set<String> names = new TreeSet<>();
        for (Method m : c.getDeclaredMethods()) {
            if (Modifier.isPublic(m.getModifiers())) {
                StringBuilder b = new StringBuilder(m.getName());
                Arrays.stream(m.getParameterTypes()).forEach(p -> b.append(' ').append(p.getName()));
                found.add(b.toString());
                names.add(m.getName());
                look(m.getReturnType() == int.class && !Modifier.isStatic(m.getModifiers()), m + " is not as told");
            } else {
                look(Modifier.isPrivate(m.getModifiers()), m + " can be seen");
            }
        }
        look(found.equals(new TreeSet<>(METHODS)), "the face is " + found);
        for (Field f : c.getDeclaredFields()) {
            boolean told = CONSTANTS.contains(f.getName());
            look(told ? Modifier.isPublic(f.getModifiers()) : Modifier.isPrivate(f.getModifiers()), f + " is not as told");
        }
        Constructor<?>[] made = c.getDeclaredConstructors();
        look(made.length == 1 && made[0].getParameterCount() == 0, "there are other constructors");
        lookAtClasses(c, names);
    }

    private static void lookAtClasses(Class<?> c, Set<String> names) {
        look(c.getDeclaredClasses().length <= 11, "there are too many classes");
        for (Class<?> inside : c.getDeclaredClasses()) {
            look(Modifier.isStatic(inside.getModifiers()), inside + " is not static");
            for (Method m : inside.getDeclaredMethods()) {
                look(!names.contains(m.getName()), m + " has the name of a public one");
                look(m.getParameterCount() <= 7, m + " takes too many");
            }
        }
        for (Method m : c.getDeclaredMethods()) {
            look(Modifier.isPublic(m.getModifiers()) || !names.contains(m.getName()), m + " has the name of a public one");
        }
    }

    private static void lookAtFile() throws IOException {
        String all = Files.readString(Path.of(FILE));
        look(all.chars().allMatch(ch -> ch == '\n' || ch >= 32 && ch < 127), "there are other signs in the file");
        String code = all.replaceAll("(?s)/\\*.*?\\*/", " ").replaceAll("//[^\n]*", " ");
        for (String word : RULED_OUT) {
            String edge = Character.isLetter(word.charAt(0)) ? "\\b" : "";
            Matcher m = Pattern.compile(edge + Pattern.quote(word) + edge).matcher(code);
            look(!m.find(), "the file has " + word);
        }
        look(!Pattern.compile("System\\.(?!arraycopy)").matcher(code).find(), "the file has more of System than it may");
        look(!Pattern.compile("while\\s*\\(").matcher(code).find(), "there is a loop without a counter");
        lookAtLengths(code);
    }

    /** A method is what begins with a line that ends in ") {" and ends with the bracket below its first sign. */
    private static void lookAtLengths(String code) {
        String[] lines = code.split("\n", -1);
        for (int i = 0; i < lines.length; i++) {
            if (lines[i].matches("( {4}| {8})(public|private|static|void|int|boolean|Row)[^;=]*\\) \\{")) {
                String end = lines[i].replaceAll("\\S.*", "") + "}";
                int j = i;
                while (j < lines.length && !lines[j].equals(end)) {
                    j++;
                }
                look(j - i < 60, "a method is long: " + lines[i].trim());
            }
        }
    }

    /** How many numbers stand in all the rows of an object. */
    private static long[] room(Object o, Set<Object> met) throws IllegalAccessException {
        long[] sum = {0, 0};
        if (o == null || !met.add(o)) {
            return sum;
        }
        sum[0] = 1;
        if (o.getClass().isArray()) {
            sum[1] = java.lang.reflect.Array.getLength(o);
            if (o instanceof Object[] parts) {
                for (Object part : parts) {
                    add(sum, room(part, met));
                }
            }
            return sum;
        }
        for (Field f : o.getClass().getDeclaredFields()) {
            if (!Modifier.isStatic(f.getModifiers())) {
                f.setAccessible(true);
                sum[1]++;
                if (!f.getType().isPrimitive()) {
                    add(sum, room(f.get(o), met));
                }
            }
        }
        return sum;
    }

    private static void add(long[] sum, long[] more) {
        sum[0] += more[0];
        sum[1] += more[1];
    }

    private static void lookAtRoom() throws IllegalAccessException {
        BinderPress x = new BinderPress();
        long[] before = room(x, java.util.Collections.newSetFromMap(new java.util.IdentityHashMap<>()));
        for (int i = 0; i < 40; i++) {
            x.drift(i % 4, 40, 7 + i);
            x.work(i % 4, i % 2, 200);
            x.of(i % 4, 11);
            x.keep(i % 2);
        }
        long[] behind = room(x, java.util.Collections.newSetFromMap(new java.util.IdentityHashMap<>()));
        System.out.println("an object has " + before[0] + " objects and rows, " + before[1] + " fields and elements");
        look(before[0] <= 200 && before[1] <= 25000, "an object takes much room");
        look(Arrays.equals(before, behind), "an object grows");
    }

    public static void main(String[] args) throws Exception {
        lookAtFace();
        lookAtFile();
        lookAtRoom();
        System.out.println(wrong == 0 ? "the file keeps to the rules looked at" : wrong + " are not kept");
        if (wrong != 0) {
            System.exit(1);
        }
    }
}
