import java.io.IOException;
import java.nio.file.Files;
import java.nio.file.Path;
import java.util.ArrayList;
import java.util.LinkedHashMap;
import java.util.List;
import java.util.Map;

/**
 * Tests that each stand for words of the document. In the end it is looked at whether those words are there, and
 * whether every word of the sections that were begun has its test: a sentence without one is a wrong answer too.
 */
abstract class Sentences {
    static final int NONE = -1, UNKNOWN = -1000000001, OUTSIDE = -1000000002, NOT = -1000000003, FULL = -1000000004;
    static final int LEAST = Integer.MIN_VALUE, MOST = Integer.MAX_VALUE;
    static final int[] NO_SHELVES = {-1, 4, LEAST, MOST};
    static final int[] NO_IMAGES = {-1, 2, LEAST, MOST};
    static final int[] NO_NAMES = {96, 123, 0, -1, 65, 255, LEAST, MOST};
    static final int[] NO_HOW = {-1, 2, LEAST, MOST};

    private static final Path DOCUMENT = Path.of("../shared/DOC.md");
    private static final Map<String, List<String>> sections = new LinkedHashMap<>();
    private static String section = "";
    private static String words = "";
    private static int looked = 0;
    private static int wrong = 0;

    interface Test {
        void run();
    }

    /** Calls that make an object what a test wants it to be. */
    interface Script {
        void on(Press x);
    }

    interface Call {
        int on(Press x);
    }

    // ---- the sentences

    static void begin(String title) {
        section = title;
        sections.put(title, new ArrayList<>());
    }

    static void holds(String quoted, Test test) {
        words = quoted;
        sections.get(section).add(quoted);
        int before = looked;
        test.run();
        if (looked == before) {
            complain("nothing was looked at");
        }
    }

    /** Words that name no answer, or only say where others stand. */
    static void saysNothingToTest(String quoted) {
        sections.get(section).add(quoted);
    }

    static void complain(String what) {
        wrong++;
        System.out.println(section + " / " + words + " / " + what);
    }

    static void due(String what, int got, int want) {
        looked++;
        if (got != want) {
            complain(what + " answered " + got + ", due is " + want);
        }
    }

    static void due(String what, String got, String want) {
        looked++;
        if (!got.equals(want)) {
            complain(what + " is " + got + ", due is " + want);
        }
    }

    // ---- objects

    static Press made(Script state) {
        Press x = new Press();
        state.on(x);
        return x;
    }

    /** A new object with a TERM on each of the first shelves. */
    static Press with(String... texts) {
        return made(terms(texts));
    }

    static Script terms(String... texts) {
        return x -> {
            for (int s = 0; s < texts.length; s++) {
                if (x.read(s, texts[s]) < 0) {
                    complain("the test's own text " + texts[s] + " has a FAULT");
                }
            }
        };
    }

    static Script then(Script first, Script second) {
        return x -> {
            first.on(x);
            second.on(x);
        };
    }

    static String times(String part, int n) {
        return part.repeat(n);
    }

    /**
     * Something of all: shelf 0 has a STEP, 1 a BINDER, 2 no KIND, 3 is empty; two changes can be undone, both
     * IMAGES are kept, the latest text had a FAULT at letter 1, and THE TEXT has two letters.
     */
    static void something(Press x) {
        x.read(0, "xy");
        x.keep(0);
        x.read(0, "Ka");
        x.read(1, "^x.x");
        x.keep(1);
        x.read(2, "SII");
        x.read(0, "Iab");
        x.read(3, "a)");
        x.feedAll("bc");
    }

    // ---- what is seen of an object

    /** All that can be seen of what these calls make; each look that changes something has an object of its own. */
    static String seen(Script state) {
        Press now = made(state);
        StringBuilder b = new StringBuilder();
        b.append("letters ").append(now.told(0)).append(", shelves ").append(now.told(1));
        b.append(", undo ").append(now.told(2)).append(", fault ").append(now.fault()).append('\n');
        b.append(shelvesOf(now));
        int undone = made(state).told(2);
        for (int k = 1; k <= undone + 1; k++) {
            Press back = made(state);
            b.append("undone");
            for (int i = 0; i < k; i++) {
                b.append(' ').append(back.undo());
            }
            b.append(shelvesOf(back));
        }
        for (int i = 0; i < 2; i++) {
            Press image = made(state);
            b.append("image ").append(image.goBack(i)).append(shelvesOf(image));
        }
        Press text = made(state);
        b.append("text ").append(text.term(3)).append(' ').append(text.fault()).append(' ').append(text.written(3));
        return b.toString();
    }

    private static String shelvesOf(Press x) {
        StringBuilder b = new StringBuilder();
        for (int s = 0; s < 4; s++) {
            b.append(" [").append(x.written(s)).append(']');
        }
        return b.append('\n').toString();
    }

    /** Each call has this answer and leaves all that can be seen as it was. */
    static void leaves(String what, int answer, Script state, Call... calls) {
        String before = seen(state);
        for (int i = 0; i < calls.length; i++) {
            Call call = calls[i];
            due(what + ", call " + i, call.on(made(state)), answer);
            due(what + ", what is left by call " + i, seen(then(state, call::on)), before);
        }
    }

    // ---- the document

    private static Map<String, String> readDocument() throws IOException {
        Map<String, String> texts = new LinkedHashMap<>();
        String title = "";
        for (String line : Files.readAllLines(DOCUMENT)) {
            if (line.startsWith("## ")) {
                title = line.substring(3).trim();
            } else if (!line.startsWith("```")) {
                String plain = line.replaceAll("^`[^`]*`:", "").trim();
                texts.merge(title, plain, (a, b) -> a + " " + b);
            }
        }
        return texts;
    }

    private static void lookAtSection(String title, String text) {
        boolean[] tested = new boolean[text.length()];
        for (String quoted : sections.get(title)) {
            int at = text.indexOf(quoted);
            if (at < 0) {
                complain("the document does not say: " + quoted);
            }
            for (; at >= 0; at = text.indexOf(quoted, at + 1)) {
                java.util.Arrays.fill(tested, at, at + quoted.length(), true);
            }
        }
        StringBuilder left = new StringBuilder();
        for (int i = 0; i < tested.length; i++) {
            left.append(tested[i] ? ' ' : text.charAt(i));
        }
        String without = left.toString().replaceAll("[ =:;.,()]+", " ").trim();
        if (!without.isEmpty()) {
            complain("no test stands for: " + without);
        }
    }

    static void end() {
        try {
            Map<String, String> texts = readDocument();
            for (String title : sections.keySet()) {
                section = title;
                words = "the whole section";
                lookAtSection(title, texts.getOrDefault(title, ""));
            }
        } catch (IOException e) {
            complain("the document cannot be read: " + e);
        }
        int sentences = sections.values().stream().mapToInt(List::size).sum();
        System.out.println(sentences + " sentences, " + looked + " answers looked at, " + wrong + " not as due");
        if (wrong != 0) {
            System.exit(1);
        }
    }
}
