import java.io.IOException;
import java.lang.reflect.Constructor;
import java.lang.reflect.Field;
import java.lang.reflect.Method;
import java.lang.reflect.Modifier;
import java.nio.file.Files;
import java.nio.file.Path;
import java.util.ArrayList;
import java.util.Arrays;
import java.util.List;
import java.util.Set;
import java.util.TreeSet;
import java.util.regex.Matcher;
import java.util.regex.Pattern;

/** The face of the class, what LANGUAGE.md rules out and can be seen in the file, and how much room an object takes. */
public final class LanguageTests {
    private static final String FILE = "src/main/java/BinderPress.java";
    private static final String DOCUMENT = "../shared/DOC.md";
    private static final List<String> RULED_OUT = List.of("throw", "try", "catch", "synchronized", "assert", "import",
        "package", "native", "volatile", "transient", "->", "::", "Thread", "Random", "hashCode", "toString",
        "Exact", "protected");

    private static int wrong = 0;

    private static void look(boolean good, String what) {
        if (!good) {
            wrong++;
            System.out.println(what);
        }
    }

    /** The lines of the document's face, each without "public" and the ';'. */
    private static List<String> faceOfDocument() throws IOException {
        List<String> face = new ArrayList<>();
        boolean inFace = false;
        for (String line : Files.readAllLines(Path.of(DOCUMENT))) {
            if (line.startsWith("#")) {
                inFace = line.equals("## The public face");
            } else if (inFace && line.startsWith("    public ")) {
                face.add(line.trim().replaceAll("^public |;$", ""));
            }
        }
        return face;
    }

    private static String faceOf(Method m) {
        StringBuilder b = new StringBuilder(m.getReturnType().getName());
        b.append(' ').append(m.getName()).append('(');
        for (int i = 0; i < m.getParameterCount(); i++) {
            b.append(i == 0 ? "" : ", ").append(m.getParameterTypes()[i].getName());
        }
        return b.append(')').toString();
    }

    private static void lookAtFace() throws ReflectiveOperationException, IOException {
        Class<?> c = BinderPress.class;
        look(Modifier.isPublic(c.getModifiers()) && Modifier.isFinal(c.getModifiers()), "the class is not public and final");
        look(c.getSuperclass() == Object.class && c.getInterfaces().length == 0, "the class has another above it");
        Set<String> told = new TreeSet<>();
        Set<String> names = new TreeSet<>();
        Set<String> constants = new TreeSet<>();
        for (String line : faceOfDocument()) {
            if (line.startsWith("static final int ")) {
                lookAtConstants(c, line.substring("static final int ".length()), constants);
            } else if (line.startsWith("int ")) {
                told.add(line.replaceAll(" \\w+([,)])", "$1"));
                names.add(line.replaceAll("^int (\\w+).*", "$1"));
            } else {
                look(line.equals("BinderPress()"), "the document's face has a line that no test knows: " + line);
            }
        }
        look(told.size() == 20 && constants.size() == 5, "the document's face was not found whole");
        Set<String> found = new TreeSet<>();
        for (Method m : c.getDeclaredMethods()) {
            if (Modifier.isPublic(m.getModifiers())) {
                found.add(faceOf(m));
                look(!Modifier.isStatic(m.getModifiers()) && m.getExceptionTypes().length == 0, m + " is not as told");
            } else {
                look(Modifier.isPrivate(m.getModifiers()), m + " can be seen");
            }
        }
        look(found.equals(told), "the face is " + found + ", due is " + told);
        for (Field f : c.getDeclaredFields()) {
            look(constants.contains(f.getName()) || Modifier.isPrivate(f.getModifiers()), f + " can be seen");
        }
        Constructor<?>[] made = c.getDeclaredConstructors();
        look(made.length == 1 && made[0].getParameterCount() == 0 && Modifier.isPublic(made[0].getModifiers()),
            "the constructor is not as told");
        lookAtClasses(c, names);
    }

    private static void lookAtConstants(Class<?> c, String line, Set<String> constants) throws ReflectiveOperationException {
        for (String part : line.split(", ")) {
            String[] sides = part.split(" = ");
            constants.add(sides[0]);
            Field f = c.getDeclaredField(sides[0]);
            int all = Modifier.PUBLIC | Modifier.STATIC | Modifier.FINAL;
            look(f.getModifiers() == all && f.getType() == int.class, f + " is not as told");
            look(f.getInt(null) == Integer.parseInt(sides[1]), f + " is " + f.getInt(null));
        }
    }

    private static void lookAtClasses(Class<?> c, Set<String> names) {
        look(c.getDeclaredClasses().length <= 11, "there are too many classes");
        for (Class<?> inside : c.getDeclaredClasses()) {
            look(Modifier.isStatic(inside.getModifiers()), inside + " is not static");
            for (Method m : inside.getDeclaredMethods()) {
                look(!names.contains(m.getName()), m + " has the name of a public one");
                look(m.getParameterCount() <= 7, m + " takes too many");
            }
        }
        for (Method m : c.getDeclaredMethods()) {
            look(Modifier.isPublic(m.getModifiers()) || !names.contains(m.getName()), m + " has the name of a public one");
        }
    }

    private static void lookAtFile() throws IOException {
        String all = Files.readString(Path.of(FILE));
        look(all.chars().allMatch(ch -> ch == '\n' || ch >= 32 && ch < 127), "there are other signs in the file");
        String code = all.replaceAll("(?s)/\\*.*?\\*/", " ").replaceAll("//[^\n]*", " ");
        for (String word : RULED_OUT) {
            String edge = Character.isLetter(word.charAt(0)) ? "\\b" : "";
            Matcher m = Pattern.compile(edge + Pattern.quote(word) + edge).matcher(code);
            look(!m.find(), "the file has " + word);
        }
        look(!Pattern.compile("System\\.(?!arraycopy)").matcher(code).find(), "the file has more of System than it may");
        look(!Pattern.compile("while\\s*\\(").matcher(code).find(), "there is a loop without a counter");
        lookAtMethods(code);
    }

    /** A method is what begins with a line that ends in ") {" and ends with the bracket below its first sign. */
    private static List<String> methodsOf(String code) {
        List<String> methods = new ArrayList<>();
        String[] lines = code.split("\n", -1);
        for (int i = 0; i < lines.length; i++) {
            if (lines[i].matches("( {4}| {8})(?!if|for|while|switch)[A-Za-z][^;=]*\\) \\{")) {
                String end = lines[i].replaceAll("\\S.*", "") + "}";
                int j = i;
                while (j < lines.length && !lines[j].equals(end)) {
                    j++;
                }
                methods.add(String.join("\n", Arrays.copyOfRange(lines, i, Math.min(j + 1, lines.length))));
            }
        }
        return methods;
    }

    private static void lookAtMethods(String code) {
        List<String> methods = methodsOf(code);
        look(methods.size() > 100, "only " + methods.size() + " methods were found");
        for (String method : methods) {
            String head = method.lines().findFirst().orElse("").trim();
            look(method.lines().count() <= 60, "a method is long: " + head);
            lookAtIndices(head, method);
        }
    }

    /** Rule 7: what an index is made of was compared, or looked at by isShelf or isImage, ahead of it in its own method. */
    private static void lookAtIndices(String head, String method) {
        Matcher use = Pattern.compile("(\\w+)\\[([^\\[\\]]+)\\]").matcher(method);
        while (use.find()) {
            if (method.substring(0, use.start()).endsWith("new ")) {
                continue;
            }
            String ahead = method.substring(0, use.start());
            look(!use.group(2).contains("("), "an index is a call: " + use.group() + " in " + head);
            Matcher name = Pattern.compile("\\b[a-z]\\w*").matcher(use.group(2));
            while (name.find()) {
                String compared = "\\b" + name.group() + " [<>]|\\bis(Shelf|Image)\\(" + name.group() + "\\)";
                look(Pattern.compile(compared).matcher(ahead).find(),
                    "an index is not looked at: " + use.group() + " in " + head);
            }
        }
    }

    /** How many numbers stand in all the rows of an object. */
    private static long[] room(Object o, Set<Object> met) throws IllegalAccessException {
        long[] sum = {0, 0};
        if (o == null || !met.add(o)) {
            return sum;
        }
        sum[0] = 1;
        if (o.getClass().isArray()) {
            sum[1] = java.lang.reflect.Array.getLength(o);
            if (o instanceof Object[] parts) {
                for (Object part : parts) {
                    add(sum, room(part, met));
                }
            }
            return sum;
        }
        for (Field f : o.getClass().getDeclaredFields()) {
            if (!Modifier.isStatic(f.getModifiers())) {
                f.setAccessible(true);
                sum[1]++;
                if (!f.getType().isPrimitive()) {
                    add(sum, room(f.get(o), met));
                }
            }
        }
        return sum;
    }

    private static void add(long[] sum, long[] more) {
        sum[0] += more[0];
        sum[1] += more[1];
    }

    private static void lookAtRoom() throws IllegalAccessException {
        BinderPress x = new BinderPress();
        long[] before = room(x, java.util.Collections.newSetFromMap(new java.util.IdentityHashMap<>()));
        for (int i = 0; i < 40; i++) {
            x.drift(i % 4, 40, 7 + i);
            x.work(i % 4, i % 2, 200);
            x.of(i % 4, 11);
            x.keep(i % 2);
        }
        long[] behind = room(x, java.util.Collections.newSetFromMap(new java.util.IdentityHashMap<>()));
        System.out.println("an object has " + before[0] + " objects and rows, " + before[1] + " fields and elements");
        look(before[0] <= 200 && before[1] <= 25000, "an object takes much room");
        look(Arrays.equals(before, behind), "an object grows");
    }

    public static void main(String[] args) throws Exception {
        lookAtFace();
        lookAtFile();
        lookAtRoom();
        System.out.println(wrong == 0 ? "the file keeps to the rules looked at" : wrong + " are not kept");
        if (wrong != 0) {
            System.exit(1);
        }
    }
}
