import java.math.BigInteger;

/** The edges that the document names under "Terms", a test for each sentence. */
public final class TermEdgeTests extends Sentences {
    private static final int FAULT_1 = -11, FAULT_2 = -12;

    /** SIZES 118, 119 and 120 with all brackets closed: what comes behind is PUT to them. */
    private static final String SIZE_118 = "^x." + times("a", 59);
    private static final String SIZE_119 = times("a", 60);
    private static final String SIZE_120 = "^x." + times("a", 60);

    // ---- what the tests share

    private static void reads(String text, int size, String want) {
        Press x = new Press();
        due("term of " + text, x.read(0, text), size);
        due("fault() of " + text, x.fault(), NONE);
        due(text + " WRITTEN", x.written(0), want);
    }

    private static void fails(String text, int answer, int place) {
        Press x = with("cd");
        due("term of " + text, x.read(0, text), answer);
        due("fault() of " + text, x.fault(), place);
        due("the shelf behind " + text, x.written(0), "cd");
        due("what can be undone behind " + text, x.told(2), 1);
    }

    private static void takesOut(String text, String want) {
        Press x = with(text);
        x.takeOut(0, 'x');
        due("x TAKEN OUT of " + text, x.written(0), want);
    }

    private static void compiles(String text, String want) {
        Press x = with(text);
        x.compile(0);
        due(text + " COMPILED", x.written(0), want);
    }

    private static void works(String text, int how, int most, int done, String want) {
        Press x = with(text);
        due("work(0, " + how + ", " + most + ") of " + text, x.work(0, how, most), done);
        due("that", x.written(0), want);
    }

    /** What one STEP makes of it, PLAINLY and SHARED. */
    private static void stepsTo(String text, String want) {
        works(text, 0, 1, 1, want);
        works(text, 1, 1, 1, want);
    }

    private static void hasNoStep(String text) {
        works(text, 0, 200, 0, text);
        works(text, 1, 200, 0, text);
    }

    private static void isKind(String text, String want) {
        Press x = with(text);
        due("of(0, 10) of " + text, x.of(0, 10), want.isEmpty() ? 0 : 1);
        due("of(0, 11) of " + text, x.of(0, 11), want.isEmpty() ? NONE : want.length());
        due("the KIND of " + text, x.kindWritten(0), want);
    }

    private static void isFree(String text, String names) {
        int set = 0;
        for (char c : names.toCharArray()) {
            set |= 1 << (c - 97);
        }
        due("FREE NAMES of " + text, with(text).of(0, 1), set);
    }

    // ---- numbers and refusals

    private static void numbersFromNought() {
        for (int s = 0; s < 4; s++) {
            Press x = new Press();
            due("term(" + s + ")", x.read(s, "a"), 1);
            due("its bit", x.told(1), 1 << s);
        }
        due("a shelf ahead of the first", with().of(-1, 0), UNKNOWN);
        due("a shelf behind the last", with().of(4, 0), UNKNOWN);
        for (int i = 0; i < 2; i++) {
            due("keep(" + i + ")", with("a").keep(i), 1);
        }
        due("an IMAGE ahead of the first", with("a").keep(-1), UNKNOWN);
        due("an IMAGE behind the last", with("a").keep(2), UNKNOWN);
        Press x = with("ab", "I");
        due("the first sign", x.sign(0, 0), 'a');
        due("the second sign", x.sign(0, 1), 'b');
        due("the first sign of a KIND", x.kind(1, 0), 'a');
        x.read(2, ")");
        due("the first letter", x.fault(), 0);
    }

    private static void sets() {
        StringBuilder all = new StringBuilder();
        for (int k = 0; k < 26; k++) {
            String name = "" + (char) (97 + k);
            due("the SET of " + name, with(name).of(0, 1), 1 << k);
            all.append(name);
        }
        due("the SET of all", with(all.toString()).of(0, 1), 0x3ffffff);
        due("the SET of none", with("IKSBC").of(0, 1), 0);
    }

    private static void noneIsMinusOne() {
        due("NONE", BinderPress.NONE, -1);
        due("fault() of a new object", with().fault(), -1);
        due("sign behind the last", with("a").sign(0, 1), -1);
        due("kind behind the last", with("a").kind(0, 1), -1);
        due("kind of none", with("SII").kind(0, 0), -1);
        due("signs of no KIND", with("SII").of(0, 11), -1);
    }

    /** Two shelves of SIZE 119, one of them with a NAME once; a BINDER; nothing. */
    private static void large(Press x) {
        x.read(0, times("a", 60));
        x.read(1, "b" + times("I", 59));
        x.read(2, "^x.x");
    }

    /** 27 letters are more than a KIND may have to be WRITTEN. */
    private static final String WIDE = times("K(", 26) + "I" + times(")", 26);

    private static void firstInOrder() {
        Script some = Sentences::something;
        leaves("UNKNOWN ahead of OUTSIDE", UNKNOWN, some, x -> x.takeOut(4, 96), x -> x.putIn(-1, 123, 0),
            x -> x.putIn(0, 123, 4), x -> x.work(4, 2, 201), x -> x.drift(-1, 0, 0), x -> x.of(4, 12),
            x -> x.sign(-1, -1), x -> x.kind(4, -1), x -> x.steps(-1, 2));
        leaves("UNKNOWN ahead of NOT", UNKNOWN, some, x -> x.put(4, 3, 3), x -> x.put(0, 3, 4), x -> x.put(0, 4, 3),
            x -> x.putIn(3, 97, 4), x -> x.putIn(4, 97, 3), x -> x.putIn(1, 97, -1), x -> x.same(3, 4),
            x -> x.same(-1, 3), x -> x.sameKind(3, 4), x -> x.sameKind(-1, 3));
        leaves("OUTSIDE ahead of NOT", OUTSIDE, some, x -> x.takeOut(3, 96), x -> x.takeOut(3, 123),
            x -> x.putIn(3, 96, 0), x -> x.putIn(0, 123, 3), x -> x.putIn(1, 96, 1), x -> x.work(3, 2, 0),
            x -> x.work(3, 0, 201), x -> x.work(1, -1, 0), x -> x.work(1, 1, -1), x -> x.of(3, 12), x -> x.of(3, -1),
            x -> x.sign(3, -1), x -> x.kind(3, -1), x -> x.steps(3, 2), x -> x.steps(1, -1));
        Script much = TermEdgeTests::large;
        leaves("UNKNOWN ahead of FULL", UNKNOWN, much, x -> x.put(4, 0, 0), x -> x.putIn(0, 97, 4), x -> x.takeOut(4, 99));
        leaves("OUTSIDE ahead of FULL", OUTSIDE, much, x -> x.takeOut(0, 96), x -> x.putIn(0, 96, 0));
        leaves("NOT ahead of FULL", NOT, much, x -> x.putIn(0, 97, 2), x -> x.putIn(0, 97, 3), x -> x.put(0, 0, 3));
        Script full = x -> x.feedAll(times("a", 240));
        leaves("OUTSIDE ahead of FULL", OUTSIDE, full, x -> x.feed(-1), x -> x.feed(256));
        Script wide = terms(WIDE);
        leaves("ahead of a KIND's FULL", UNKNOWN, wide, x -> x.sameKind(0, 4), x -> x.sameKind(4, 0), x -> x.kind(4, 0));
        leaves("ahead of a KIND's FULL", OUTSIDE, wide, x -> x.kind(0, -1), x -> x.of(0, 12));
        leaves("ahead of a KIND's FULL", NOT, wide, x -> x.sameKind(0, 3), x -> x.sameKind(3, 0), x -> x.kind(3, 0));
        Script grows = terms("SSS(SSS)(SSS)");
        leaves("ahead of TOO BIG", OUTSIDE, grows, x -> x.work(0, 2, 200), x -> x.work(0, 0, 201), x -> x.steps(0, 2));
    }

    private static void whatThereIsNot() {
        for (int s : NO_SHELVES) {
            leaves("shelf " + s, UNKNOWN, Sentences::something, x -> x.term(s), x -> x.compile(s), x -> x.takeOut(s, 97),
                x -> x.put(s, 0, 1), x -> x.put(0, s, 1), x -> x.put(0, 1, s), x -> x.putIn(s, 97, 0),
                x -> x.putIn(0, 97, s), x -> x.work(s, 0, 1), x -> x.drop(s), x -> x.drift(s, 1, 1), x -> x.of(s, 0),
                x -> x.sign(s, 0), x -> x.kind(s, 0), x -> x.steps(s, 0), x -> x.same(s, 0), x -> x.same(0, s),
                x -> x.sameKind(s, 0), x -> x.sameKind(0, s));
        }
        for (int i : NO_IMAGES) {
            leaves("image " + i, UNKNOWN, Sentences::something, x -> x.keep(i), x -> x.goBack(i));
        }
    }

    private static void outOfBounds() {
        Script some = Sentences::something;
        leaves("a letter", OUTSIDE, some, x -> x.feed(-1), x -> x.feed(256));
        leaves("a NAME", OUTSIDE, some, x -> x.takeOut(0, 96), x -> x.takeOut(0, 123), x -> x.putIn(0, 96, 2),
            x -> x.putIn(0, 123, 2));
        leaves("how, n", OUTSIDE, some, x -> x.work(0, -1, 1), x -> x.work(0, 2, 1), x -> x.work(0, 0, -1),
            x -> x.work(0, 0, 201), x -> x.steps(0, -1), x -> x.steps(0, 2));
        leaves("lots", OUTSIDE, some, x -> x.drift(0, 0, 1), x -> x.drift(0, 41, 1), x -> x.drift(0, 1, 0),
            x -> x.drift(0, 1, 1000000));
        leaves("what", OUTSIDE, some, x -> x.told(-1), x -> x.told(3), x -> x.of(0, -1), x -> x.of(0, 12));
        leaves("i", OUTSIDE, some, x -> x.sign(0, -1), x -> x.kind(0, -1));
    }

    private static void emptyEverywhere() {
        Script some = Sentences::something;
        leaves("an empty shelf", NOT, some, x -> x.compile(3), x -> x.takeOut(3, 97), x -> x.put(0, 3, 0),
            x -> x.put(0, 0, 3), x -> x.put(3, 3, 3), x -> x.putIn(3, 97, 0), x -> x.putIn(0, 97, 3), x -> x.work(3, 0, 1),
            x -> x.work(3, 1, 0), x -> x.drop(3), x -> x.sign(3, 0), x -> x.kind(3, 0), x -> x.steps(3, 0),
            x -> x.steps(3, 1), x -> x.same(3, 0), x -> x.same(0, 3), x -> x.same(3, 3), x -> x.sameKind(3, 0),
            x -> x.sameKind(0, 3), x -> x.sameKind(3, 3));
        for (int what = 0; what <= 11; what++) {
            int asked = what;
            leaves("of(3, " + what + ")", NOT, some, x -> x.of(3, asked));
        }
        due("a shelf that is to get a TERM may be empty: put", made(some).put(3, 0, 0), 11);
        due("drift", made(some).drift(3, 1, 1), 1);
        due("term", made(some).term(3), 3);
    }

    private static void farBelow() {
        due("UNKNOWN", BinderPress.UNKNOWN, -1000000001);
        due("OUTSIDE", BinderPress.OUTSIDE, -1000000002);
        due("NOT", BinderPress.NOT, -1000000003);
        due("FULL", BinderPress.FULL, -1000000004);
        due("as answered", with().compile(4), -1000000001);
        due("as answered", with().feed(256), -1000000002);
        due("as answered", with().undo(), -1000000003);
        due("as answered", with(WIDE).kind(0, 0), -1000000004);
    }

    // ---- every call with all sorts of numbers: what is refused leaves all as it was

    private static final int[] SORTS = {LEAST, -1, 0, 1, 2, 3, 4, 97, 123, 201, MOST};

    private interface ThreeCall {
        int on(Press x, int a, int b, int c);
    }

    private static boolean isRefusal(int answer) {
        return answer <= UNKNOWN && answer >= FULL;
    }

    /** Which refusals there were, as bits from UNKNOWN on. */
    private static int refusals(Script state, int wanted, ThreeCall call) {
        String before = seen(state);
        int met = 0;
        int[] one = {0};
        for (int a : wanted > 0 ? SORTS : one) {
            for (int b : wanted > 1 ? SORTS : one) {
                for (int c : wanted > 2 ? SORTS : one) {
                    int answer = call.on(made(state), a, b, c);
                    if (isRefusal(answer)) {
                        met |= 1 << (UNKNOWN - answer);
                        due(a + ", " + b + ", " + c + ": what is left", seen(then(state, x -> call.on(x, a, b, c))), before);
                    }
                }
            }
        }
        return met;
    }

    /** A TERM that gets too large when it is worked out, one whose KIND is too long, and what can be undone. */
    private static void muchOnShelves(Press x) {
        x.read(0, times("a", 60));
        x.read(1, "SII(a" + times("a", 54) + ")");
        x.keep(1);
        x.read(2, WIDE);
        x.drift(0, 1, 1);
        x.undo();
    }

    private static void fullText(Press x) {
        x.read(0, "ab");
        x.feedAll(times(" ", 239) + "a");
    }

    private static void refusedLeaves(String name, int wanted, int met, ThreeCall call) {
        int found = refusals(Sentences::something, wanted, call) | refusals(TermEdgeTests::muchOnShelves, wanted, call)
            | refusals(TermEdgeTests::fullText, wanted, call);
        due("which refusals " + name + " met", found, met);
    }

    private static void refusedChangesNothing() {
        int unknown = 1, outside = 2, not = 4, full = 8;
        refusedLeaves("feed", 1, outside | full, (x, a, b, c) -> x.feed(a));
        refusedLeaves("term", 1, unknown, (x, a, b, c) -> x.term(a));
        refusedLeaves("compile", 1, unknown | not, (x, a, b, c) -> x.compile(a));
        refusedLeaves("takeOut", 2, unknown | outside | not | full, (x, a, b, c) -> x.takeOut(a, b));
        refusedLeaves("put", 3, unknown | not | full, (x, a, b, c) -> x.put(a, b, c));
        refusedLeaves("putIn", 3, unknown | outside | not | full, (x, a, b, c) -> x.putIn(a, b, c));
        refusedLeaves("work", 3, unknown | outside | not | full, (x, a, b, c) -> x.work(a, b, c));
        refusedLeaves("drop", 1, unknown | not, (x, a, b, c) -> x.drop(a));
        refusedLeaves("drift", 3, unknown | outside, (x, a, b, c) -> x.drift(a, b, c));
        refusedLeaves("told", 1, outside, (x, a, b, c) -> x.told(a));
        refusedLeaves("of", 2, unknown | outside | not, (x, a, b, c) -> x.of(a, b));
        refusedLeaves("sign", 2, unknown | outside | not, (x, a, b, c) -> x.sign(a, b));
        refusedLeaves("kind", 2, unknown | outside | not | full, (x, a, b, c) -> x.kind(a, b));
        refusedLeaves("steps", 2, unknown | outside | not, (x, a, b, c) -> x.steps(a, b));
        refusedLeaves("same", 2, unknown | not, (x, a, b, c) -> x.same(a, b));
        refusedLeaves("sameKind", 2, unknown | not | full, (x, a, b, c) -> x.sameKind(a, b));
        refusedLeaves("keep", 1, unknown, (x, a, b, c) -> x.keep(a));
        refusedLeaves("goBack", 1, unknown | not, (x, a, b, c) -> x.goBack(a));
        leaves("undo of none", NOT, x -> x.read(0, ")"), x -> x.undo());
        leaves("compile to 121", FULL, terms("^a.^b.^c.(^x.x" + times("K", 30) + ")abc"), x -> x.compile(0));
        leaves("takeOut to 121", FULL, terms(SIZE_119), x -> x.takeOut(0, 'b'));
        leaves("of a KIND too long", FULL, terms(WIDE), x -> x.of(0, 11));
    }

    /** What several calls tell of three TERMS, read anew: two without BINDERS, one with some. */
    private static String answers(Press x) {
        StringBuilder b = new StringBuilder();
        String[] texts = {"SII(SII(Ka))", "Sab(K(Ic)d)", "^x.^y.y(xya)"};
        for (String text : texts) {
            b.append(x.read(3, text)).append(' ').append(x.written(3)).append(' ').append(x.kindWritten(3));
            b.append(' ').append(x.of(3, 1)).append(' ').append(x.of(3, 9)).append(' ').append(x.sameKind(3, 3));
            b.append(' ').append(x.steps(3, 0)).append(' ').append(x.steps(3, 1)).append(' ').append(x.work(3, 1, 2));
            b.append(' ').append(x.written(3)).append(' ').append(x.work(3, 0, 2)).append(' ').append(x.compile(3));
            b.append(' ').append(x.written(3)).append(' ').append(x.takeOut(3, 'a')).append(' ').append(x.written(3));
            b.append('\n');
        }
        return b.toString();
    }

    /** Each call just behind what ended early, ahead of any other that could clear away what that left. */
    private static void firstBehind(Script early, int number) {
        String[] texts = {"SII(SII(Ka))", "Sab(K(Ic)d)", "^x.^y.y(xya)", "B(CIx)K", "BBB", "^f.^g.fx(g(^y.x))"};
        Call[] first = {x -> x.work(3, 0, 1), x -> x.work(3, 1, 1), x -> x.steps(3, 0), x -> x.steps(3, 1),
            x -> x.compile(3), x -> x.takeOut(3, 'a'), x -> x.of(3, 1), x -> x.of(3, 8), x -> x.of(3, 9), x -> x.of(3, 10),
            x -> x.of(3, 11), x -> x.kind(3, 2), x -> x.sameKind(3, 3), x -> x.sign(3, 2), x -> x.put(3, 3, 3)};
        for (String text : texts) {
            for (int i = 0; i < first.length; i++) {
                Press x = made(early);
                Press alone = new Press();
                x.read(3, text);
                alone.read(3, text);
                String where = text + " behind " + number + ", call " + i;
                due(where, first[i].on(x), first[i].on(alone));
                due(where + ", SIZE", x.of(3, 0), alone.of(3, 0));
                due(where + ", WRITTEN", x.written(3), alone.written(3));
                due(where + ", KIND", x.kindWritten(3), alone.kindWritten(3));
            }
        }
    }

    /** A call that ends early, refused or not, leaves nothing half done for the next one to meet. */
    private static void nothingHalfDone() {
        String far = times("^a.^b.^c.^d.^e.", 3) + times("(abcde)", 9);
        String grows = "SSS(SSS)(SSS)";
        String doubles = times("(^x.^f.fxx)(", 13) + "I" + times(")", 13);
        Script[] early = {then(terms(far), x -> x.compile(0)), then(terms(far), x -> x.takeOut(0, 'a')),
            then(terms(grows), x -> x.work(0, 0, 200)), then(terms(grows), x -> x.work(0, 1, 200)),
            then(terms(grows), x -> x.steps(0, 0)), then(terms(grows), x -> x.steps(0, 1)),
            then(terms("SII(SII)"), x -> x.steps(0, 1)), then(terms(WIDE), x -> x.kind(0, 0)),
            then(terms(doubles), x -> x.of(0, 11)), then(terms(doubles), x -> x.sameKind(0, 0)),
            then(terms("SII(SII)"), x -> x.of(0, 10)), then(terms("BBB(xx)"), x -> x.of(0, 10)),
            then(terms("K(^x.xx)(BB)"), x -> x.kind(0, 0)), x -> x.read(0, "(a(^x.b"), x -> x.read(0, times("a", 61))};
        String alone = answers(new Press());
        for (int i = 0; i < early.length; i++) {
            due("answers behind what ended early, " + i, answers(made(early[i])), alone);
            firstBehind(early[i], i);
        }
    }

    private static void numbersAndRefusals() {
        saysNothingToTest("Words in capitals are told where they come first.");
        holds("What has a number has it from 0 on, as it comes.", TermEdgeTests::numbersFromNought);
        holds("A SET is a whole number, bit k for the name 97 and k.", TermEdgeTests::sets);
        holds("NONE is -1.", TermEdgeTests::noneIsMinusOne);
        holds("REFUSALS, of several the first in this order, but as told:", TermEdgeTests::firstInOrder);
        holds("UNKNOWN (a SHELF, IMAGE that there is not)", TermEdgeTests::whatThereIsNot);
        holds("OUTSIDE (another number out of its bounds)", TermEdgeTests::outOfBounds);
        holds("NOT (not now, as told; everywhere: a SHELF that is to have a TERM is empty), FULL.",
            TermEdgeTests::emptyEverywhere);
        holds("They are far below all that is counted: -1000000001 and on.", TermEdgeTests::farBelow);
        holds("What is refused changes nothing.", TermEdgeTests::refusedChangesNothing);
        holds("What is refused changes nothing.", TermEdgeTests::nothingHalfDone);
    }

    // ---- 1 TERMS

    private static boolean isOneOf(int letter, String letters) {
        return letters.indexOf(letter) >= 0;
    }

    private static final String NAMES = "abcdefghijklmnopqrstuvwxyz";
    private static final String SIGNS = "IKSBC";

    private static void names() {
        for (int c = 0; c <= 255; c++) {
            Press x = new Press();
            boolean name = c >= 97 && c <= 122;
            x.feedAll("^" + (char) c + ".I");
            due("a BINDER of the letter " + c, x.term(0), name ? 2 : FAULT_1);
            due("its FAULT", x.fault(), name ? NONE : c == 32 ? 2 : 1);
        }
        reads("a", 1, "a");
        reads("z", 1, "z");
        fails("`", FAULT_1, 0);
        fails("{", FAULT_1, 0);
    }

    /** Every letter by itself, and behind another one. */
    private static void signs() {
        for (int c = 0; c <= 255; c++) {
            boolean whole = isOneOf(c, NAMES) || isOneOf(c, SIGNS);
            boolean goesOn = isOneOf(c, " (^");
            String text = "" + (char) c;
            if (whole) {
                reads(text, 1, text);
                reads("a" + text, 3, "a" + text);
            } else {
                fails(text, FAULT_1, goesOn ? 1 : 0);
            }
            if (!whole && c != 32) {
                fails("a" + text, FAULT_1, goesOn ? 2 : 1);
            }
        }
    }

    private static void sizes() {
        due("a NAME", with("a").of(0, 0), 1);
        due("a SIGN", with("S").of(0, 0), 1);
        due("PUTS", with("ab").of(0, 0), 3);
        due("a BINDER, its NAME not counted", with("^x.x").of(0, 0), 2);
        due("a BINDER whose NAME stands nowhere", with("^x.y").of(0, 0), 2);
        due("two BINDERS and PUTS", with("^x.^y.xK").of(0, 0), 5);
        due("brackets are not counted", with("((a)((b)))").of(0, 0), 3);
    }

    private static void freeNames() {
        isFree("x", "x");
        isFree("xy", "xy");
        isFree("^x.x", "");
        isFree("^x.y", "y");
        isFree("^x.xy", "y");
        isFree("x(^x.x)", "x");
        isFree("(^x.x)x", "x");
        isFree("^x.^x.x", "");
        isFree("^x.(^y.x)y", "y");
        isFree("^x.^y.xyz", "z");
        isFree("^a.^z.az", "");
        isFree("^a.bz", "bz");
        isFree("(^x.y)(^y.x)", "xy");
        isFree("K", "");
    }

    private static void sizeAtMost() {
        due("a text of 120", with().read(0, SIZE_120), 120);
        due("a text of 121", with().read(0, "^y." + SIZE_120), FAULT_2);
        Press x = with("^x." + times("a", 30), times("b", 30), "^x.^y." + times("a", 30));
        due("put to 120", x.put(3, 0, 1), 120);
        due("put to 121", x.put(3, 2, 1), FULL);
        due("takeOut to 119", with(times("a", 59)).takeOut(0, 'b'), 119);
        due("takeOut to 121", with(times("a", 60)).takeOut(0, 'b'), FULL);
        due("compile to 119", with("^x." + times("a", 59)).compile(0), 119);
        due("compile to 121", with("^x." + times("a", 60)).compile(0), FULL);
        due("putIn to 119", with(times("a", 58) + "x", "bc").putIn(0, 'x', 1), 119);
        due("putIn to 121", with(times("a", 59) + "x", "bc").putIn(0, 'x', 1), FULL);
        due("work to 119", with("Sab(c" + times("c", 28) + ")").work(0, 0, 1), 1);
        due("work to 121", with("Sab(c" + times("c", 28) + ")d").work(0, 0, 1), FULL);
    }

    /** A TERM as large as one may be goes through all that keeps TERMS. */
    private static void largestIsKept() {
        Press x = with(SIZE_120);
        x.keep(0);
        x.drop(0);
        x.undo();
        due("undone", x.written(0), SIZE_120);
        x.drop(0);
        x.goBack(0);
        due("from an IMAGE", x.written(0), SIZE_120);
        due("its SIZE", x.of(0, 0), 120);
        due("its longest row", x.of(0, 9), 61);
        due("its FREE NAMES", x.of(0, 1), 1);
        due("its KIND is none", x.of(0, 11), NONE);
        due("it is the same", x.same(0, 0), 1);
    }

    private static void shelves() {
        Press x = new Press();
        due("no shelf has a TERM", x.told(1), 0);
        int bits = 0;
        for (int s = 0; s < 4; s++) {
            due("at first", x.of(s, 0), NOT);
            due("term(" + s + ")", x.read(s, times("a", s + 1)), 2 * s + 1);
            bits |= 1 << s;
            due("shelves with a TERM", x.told(1), bits);
        }
        for (int s = 0; s < 4; s++) {
            due("each has its own", x.written(s), times("a", s + 1));
        }
        due("shelf -1", x.of(-1, 0), UNKNOWN);
        due("shelf 4", x.of(4, 0), UNKNOWN);
    }

    private static void textAtMost() {
        Press x = new Press();
        String text = times("(", 119) + "ab" + times(")", 119);
        for (int i = 0; i < 240; i++) {
            due("letter " + i, x.feed(text.charAt(i)), i + 1);
        }
        due("letter 240", x.feed(')'), FULL);
        due("term", x.term(0), 3);
        due("that", x.written(0), "ab");
        due("239 blanks and a NAME", with().read(0, times(" ", 239) + "a"), 1);
        due("most BINDERS", with().read(0, times("^x.", 79) + "  x"), 80);
        fails(times("(", 240), FAULT_1, 240);
        fails(times(" ", 239) + ")", FAULT_1, 239);
    }

    private static void forms() {
        reads("abc", 5, "abc");
        reads("((ab)c)", 5, "abc");
        reads("a(bc)", 5, "a(bc)");
        reads("abcd", 7, "abcd");
        reads("(((ab)c)d)", 7, "abcd");
        reads("(a)", 1, "a");
        reads("(((a)))", 1, "a");
        reads("^x.ab", 4, "^x.ab");
        reads("^x.(ab)", 4, "^x.ab");
        reads("(^x.a)b", 4, "(^x.a)b");
        reads("^x.(^y.a)b", 5, "^x.(^y.a)b");
        reads("a^x.bc", 6, "a(^x.bc)");
        reads("(a^x.bc)d", 8, "a(^x.bc)d");
        reads("a(^x.bc)d", 8, "a(^x.bc)d");
        reads("^x.a^y.bc", 7, "^x.a(^y.bc)");
        reads("(^x.a^y.b)c", 7, "(^x.a(^y.b))c");
        reads("(^x.(a)b)c", 6, "(^x.ab)c");
        reads("^x.^y.^z.a", 4, "^x.^y.^z.a");
    }

    private static void blanks() {
        String text = "(^x.xa)(bK)";
        for (int i = 0; i <= text.length(); i++) {
            reads(text.substring(0, i) + " " + text.substring(i), 8, "(^x.xa)(bK)");
            reads(text.substring(0, i) + "   " + text.substring(i), 8, "(^x.xa)(bK)");
        }
        reads(" ( ^ x . x a ) ( b K ) ", 8, "(^x.xa)(bK)");
        int[] others = {0, 9, 10, 11, 12, 13, 31, 33, 127, 160, 255};
        for (int other : others) {
            fails("a" + (char) other + "b", FAULT_1, 1);
            fails("a " + (char) other, FAULT_1, 2);
            fails("^" + (char) other + "x.x", FAULT_1, 1);
            fails("^x" + (char) other + ".x", FAULT_1, 2);
        }
    }

    private static void firstFault() {
        fails("a)D(", FAULT_1, 1);
        fails("D)", FAULT_1, 0);
        fails("(a", FAULT_1, 2);
        fails("(a  ", FAULT_1, 4);
        fails("", FAULT_1, 0);
        fails("   ", FAULT_1, 3);
        fails(times("a", 61) + ")", FAULT_2, 60);
        fails(times("a", 59) + ")" + times("a", 9), FAULT_1, 59);
        fails("D" + times("a", 70), FAULT_1, 0);
        fails("(" + times("a", 61), FAULT_2, 61);
        fails("(" + SIZE_120, FAULT_1, 64);
        // Where a NAME or a '.' must be, what else would be too much cannot stand anyhow: 1 is the least.
        String named = SIZE_118 + "^x";
        fails(named, FAULT_1, 64);
        fails(named + "a", FAULT_1, 64);
        fails(named + "I", FAULT_1, 64);
        fails(named + "^", FAULT_1, 64);
        fails(named + "(", FAULT_1, 64);
        fails(SIZE_118 + "^K", FAULT_1, 63);
        fails(SIZE_118 + "^^", FAULT_1, 63);
        fails(SIZE_118 + "^(", FAULT_1, 63);
        fails(SIZE_120 + "D", FAULT_1, 63);
        fails(SIZE_120 + ".", FAULT_1, 63);
        fails(SIZE_120 + ")", FAULT_1, 63);
    }

    private static void cannotStand() {
        fails(")", FAULT_1, 0);
        fails(".", FAULT_1, 0);
        fails("a.", FAULT_1, 1);
        fails("a)", FAULT_1, 1);
        fails("(a))", FAULT_1, 3);
        fails("^x.a)", FAULT_1, 4);
        fails("()", FAULT_1, 1);
        fails("( )", FAULT_1, 2);
        fails("a()", FAULT_1, 2);
        fails("(a())", FAULT_1, 3);
        fails("(", FAULT_1, 1);
        fails("((a)", FAULT_1, 4);
        fails("(()", FAULT_1, 2);
        fails("^", FAULT_1, 1);
        fails("^ ", FAULT_1, 2);
        fails("^)", FAULT_1, 1);
        fails("^.a", FAULT_1, 1);
        fails("^(x).a", FAULT_1, 1);
        fails("^I.x", FAULT_1, 1);
        fails("^x", FAULT_1, 2);
        fails("^xa", FAULT_1, 2);
        fails("^x)", FAULT_1, 2);
        fails("^xy.a", FAULT_1, 2);
        fails("^x..a", FAULT_1, 3);
        fails("^x.", FAULT_1, 3);
        fails("^x.  ", FAULT_1, 5);
        fails("^x.^y.", FAULT_1, 6);
        fails("(^x.)", FAULT_1, 4);
        fails("a^x.)", FAULT_1, 4);
        fails("a^x.", FAULT_1, 4);
        fails("(^x.a", FAULT_1, 5);
        fails("aDb", FAULT_1, 1);
    }

    private static void tooMuch() {
        // At the NAME, the SIGN: alone, or PUT to something, which is one more.
        reads(SIZE_118 + "b", 120, SIZE_118 + "b");
        reads(SIZE_118 + "I", 120, SIZE_118 + "I");
        fails(SIZE_119 + "b", FAULT_2, 60);
        fails(SIZE_119 + "K", FAULT_2, 60);
        fails(SIZE_120 + "b", FAULT_2, 63);
        fails(SIZE_120 + "  b", FAULT_2, 65);
        fails(SIZE_118 + "^x.b", FAULT_2, 65);
        fails(SIZE_118 + "^x.K", FAULT_2, 65);
        fails(SIZE_119 + "(b", FAULT_2, 61);
        fails(SIZE_119 + "(K)", FAULT_2, 61);
        // At the '^', not at its NAME.
        reads(times("a", 59) + "^x.b", 120, times("a", 59) + "(^x.b)");
        fails(SIZE_119 + "^x.b", FAULT_2, 60);
        fails(SIZE_120 + "^", FAULT_2, 63);
        fails(SIZE_119 + "(^x.b)", FAULT_2, 61);
        fails(SIZE_118 + "(^x.b)", FAULT_2, 66);
        fails(SIZE_118 + "^y.^x.b", FAULT_2, 65);
        // For PUTS at the first letter of what is PUT to, a '(' too, and only at the first of several.
        fails(SIZE_120 + "(b)", FAULT_2, 63);
        fails(SIZE_120 + "((b))", FAULT_2, 63);
        fails(SIZE_120 + " (", FAULT_2, 64);
        reads(SIZE_118 + "(((b)))", 120, SIZE_118 + "b");
        fails(SIZE_118 + "(bc)", FAULT_2, 64);
        fails(SIZE_118 + "((b)c)", FAULT_2, 66);
        fails(SIZE_118 + "(b(c", FAULT_2, 64);
        // A PUT to something inside brackets is counted there, not where the brackets end.
        reads("(" + times("a", 60) + ")", 119, SIZE_119);
        fails("(" + times("a", 60) + ")b", FAULT_2, 62);
    }

    private static void terms() {
        holds("1 TERMS: a NAME (a letter 97 .. 122)", TermEdgeTests::names);
        holds("a SIGN (I, K, S, B, C)", TermEdgeTests::signs);
        holds("one TERM PUT to another one, (M N)", () -> reads("(a b)", 3, "ab"));
        holds("a BINDER: a NAME and a body.", () -> reads("^ x . x", 2, "^x.x"));
        holds("SIZE: NAMES (without those of BINDERS themselves), SIGNS, PUTS and BINDERS together.", TermEdgeTests::sizes);
        holds("FREE NAMES: those that stand in it somewhere in no BINDER of that NAME.", TermEdgeTests::freeNames);
        holds("A TERM has SIZE 120 at most.", TermEdgeTests::sizeAtMost);
        holds("A TERM has SIZE 120 at most.", TermEdgeTests::largestIsKept);
        holds("SHELVES 0 .. 3: empty (at first), or a TERM.", TermEdgeTests::shelves);
        holds("A TERM is told in a text (240 letters at most)", TermEdgeTests::textAtMost);
        holds("NAMES, SIGNS as they are; '^' NAME '.' and the body, as far as it goes (to the end, or to the ')' that ends"
            + " what is around); '(' a TERM ')'; several one behind the other are PUT from the left: a b c is ((a b) c).",
            TermEdgeTests::forms);
        holds("Blanks (32) may stand anywhere.", TermEdgeTests::blanks);
        holds("FAULTS, at the first letter that has one (the end at the text's length), of these the least:",
            TermEdgeTests::firstFault);
        holds("1 it cannot stand there (nothing where a TERM must be, too).", TermEdgeTests::cannotStand);
        holds("2 SIZE would be more than 120 (counted as they are read: at the NAME, the SIGN, the '^', or, for PUTS, at the"
            + " first letter of what is PUT to).", TermEdgeTests::tooMuch);
        holds("WRITTEN: NAMES, SIGNS as they are; a BINDER '^', its NAME, '.', the body;", () -> {
            reads("a z I K S B C", 13, "azIKSBC");
            reads("(^x.(^y.(x)))", 3, "^x.^y.x");
            reads("^x.(xy)", 4, "^x.xy");
        });
        holds("PUTS M N: M, in '(' ')' if it is a BINDER; N, in '(' ')' if it is PUTS or a BINDER; no blanks.", () -> {
            reads("(^x.x) (^y.y)", 5, "(^x.x)(^y.y)");
            reads("((a) (b)) (c)", 5, "abc");
            reads("(a) ((b) (c))", 5, "a(bc)");
            reads("((^x.x) a) b", 6, "(^x.x)ab");
            reads("a (b (^x.x) c) d", 10, "a(b(^x.x)c)d");
            reads("(a (b c)) (d e)", 9, "a(bc)(de)");
        });
    }

    // ---- 2 TAKEN OUT

    private static void puts() {
        takesOut("a(xb)", "Ba(CIb)");
        takesOut("ab(xc)", "B(ab)(CIc)");
        takesOut("xa", "CIa");
        takesOut("x(ab)", "CI(ab)");
        takesOut("xab", "C(CIa)b");
        takesOut("xx", "SII");
        takesOut("x(xa)", "SI(CIa)");
        takesOut("ax(bx)", "Sab");
        takesOut("xxx", "S(SII)I");
    }

    private static void inThisOrder() {
        // Not FREE ahead of all that looks into PUTS.
        takesOut("ab", "K(ab)");
        takesOut("a(bc)", "K(a(bc))");
        // M ahead of B M I.
        takesOut("abx", "ab");
        takesOut("a(bx)", "Bab");
        takesOut("a(b(cx))", "Ba(Bbc)");
        // x in M as well: not M, but S.
        takesOut("xx", "SII");
        takesOut("axx", "SaI");
        // B ahead of C.
        takesOut("a(xb)c", "C(Ba(CIb))c");
    }

    private static void boundWithin() {
        takesOut("^y.y", "KI");
        takesOut("^y.x", "K");
        takesOut("^y.xy", "I");
        takesOut("^x.x", "KI");
        takesOut("x(^x.x)", "CII");
        takesOut("^y.^z.x", "BKK");
        takesOut("a(^y.yx)", "Ba(CI)");
    }

    private static void compiled() {
        compiles("^x.x", "I");
        compiles("^x.y", "Ky");
        compiles("^x.^y.x", "K");
        compiles("^x.^y.y", "KI");
        compiles("^x.^x.x", "KI");
        compiles("^x.^y.^z.xz(yz)", "S");
        compiles("^x.^y.^z.x(yz)", "B");
        compiles("^x.^y.^z.xzy", "C");
        compiles("^x.^y.yx", "CI");
        compiles("(^x.x)(^y.ya)", "I(CIa)");
        compiles("a", "a");
        compiles("Ia", "Ia");
        // From the outside first it would be another: S(^y..) and so on.
        compiles("^x.^y.xy(xy)", "SSI");
    }

    private static void asManyAsItWants() {
        String[] less = {"I", "K", "Ka", "S", "Sa", "Sab", "B", "Ba", "Bab", "C", "Ca", "Cab"};
        for (String text : less) {
            hasNoStep(text);
        }
        stepsTo("Ia", "a");
        stepsTo("Kab", "a");
        stepsTo("Sabc", "ac(bc)");
        stepsTo("Babc", "a(bc)");
        stepsTo("Cabc", "acb");
        // One more is left where it is.
        stepsTo("Iab", "ab");
        stepsTo("Kabc", "ac");
        stepsTo("Sabcd", "ac(bc)d");
        stepsTo("Babcd", "a(bc)d");
        stepsTo("Cabcd", "acbd");
        hasNoStep("abcd");
        hasNoStep("a");
        hasNoStep("aI");
        hasNoStep("aIb");
        hasNoStep("a(Ka)(Sab)");
    }

    private static void fromTheLeft() {
        stepsTo("a(Ib)(Ic)", "ab(Ic)");
        stepsTo("ab(Ic)(Id)", "abc(Id)");
        stepsTo("Sa(Ib)", "Sab");
        stepsTo("S(Ia)(Ib)", "Sa(Ib)");
        stepsTo("K(Ia)", "Ka");
        stepsTo("a(b(Ic))(Id)", "a(bc)(Id)");
        stepsTo("a(K(Ib)(Ic))", "a(Ib)");
        stepsTo("a(Sbc)(d(Ke)(If))", "a(Sbc)(d(Ke)f)");
        hasNoStep("a(Kb)(c(Sd)(Cef))");
    }

    private static void outermost() {
        stepsTo("K(Ia)(Ib)", "Ia");
        stepsTo("I(Ia)", "Ia");
        stepsTo("Ka(SII(SII))", "a");
        stepsTo("S(Ia)(Ib)(Ic)", "Ia(Ic)(Ib(Ic))");
        stepsTo("B(Ia)(Ib)(Ic)", "Ia(Ib(Ic))");
        stepsTo("C(Ia)(Ib)(Ic)", "Ia(Ic)(Ib)");
        stepsTo("Ia(Ib)", "a(Ib)");
        stepsTo("IIa", "Ia");
        stepsTo("KI(Ia)b", "Ib");
    }

    private static void tillThereIsNone() {
        for (int how = 0; how <= 1; how++) {
            String three = "I(I(Ia))";
            works(three, how, 0, 0, "I(I(Ia))");
            works(three, how, 1, 1, "I(Ia)");
            works(three, how, 2, 2, "Ia");
            works(three, how, 3, 3, "a");
            works(three, how, 4, 3, "a");
            works(three, how, 200, 3, "a");
            due("it never ends", with("SII(SII)").work(0, how, 200), 200);
        }
    }

    private static void plainly() {
        works("SII(Ia)", 0, 1, 1, "I(Ia)(I(Ia))");
        works("SII(Ia)", 0, 2, 2, "Ia(I(Ia))");
        works("SII(Ia)", 0, 3, 3, "a(I(Ia))");
        works("SII(Ia)", 0, 4, 4, "a(Ia)");
        works("SII(Ia)", 0, 200, 5, "aa");
        works("Sab(Ic)", 0, 2, 2, "ac(b(Ic))");
        works("Sab(Ic)", 0, 3, 3, "ac(bc)");
    }

    private static void shared() {
        works("SII(Ia)", 1, 1, 1, "I(Ia)(I(Ia))");
        works("SII(Ia)", 1, 2, 2, "Ia(I(Ia))");
        works("SII(Ia)", 1, 3, 3, "a(Ia)");
        works("SII(Ia)", 1, 200, 4, "aa");
        works("Sab(Ic)", 1, 2, 2, "ac(bc)");
        // K x y: what takes its place is x itself, which stands twice then.
        works("Sab(K(Ic)d)", 1, 2, 2, "a(Ic)(b(Ic))");
        works("Sab(K(Ic)d)", 1, 3, 3, "ac(bc)");
        // S, B, C: what comes takes the place wherever that stands.
        works("Sab(Scde)", 1, 2, 2, "a(ce(de))(b(ce(de)))");
        works("Sab(Bcde)", 1, 2, 2, "a(c(de))(b(c(de)))");
        works("Sab(Ccde)", 1, 2, 2, "a(ced)(b(ced))");
        // Twice two times: the same thing stands in four places.
        works("Saa(Sbb(Ic))", 1, 2, 2, "a(b(Ic)(b(Ic)))(a(b(Ic)(b(Ic))))");
        works("Saa(Sbb(Ic))", 1, 3, 3, "a(bc(bc))(a(bc(bc)))");
        // What was PUT to more behind it is another thing.
        works("SSI(Ia)b", 1, 200, 4, "ab(ab)");
        // What stands twice in what was told is two things, and so it is behind a work that is over.
        works("a(Ib)(Ib)", 1, 1, 1, "ab(Ib)");
        Press x = with("Sab(Ic)");
        x.work(0, 1, 1);
        x.work(0, 1, 1);
        due("one STEP of each work", x.written(0), "ac(b(Ic))");
    }

    /** Three times z in the third STEP, and then all of it goes: SIZE 2 * (5 + 3 * 48 + d) - 1 in between. */
    private static String swells(int behind) {
        return "S(S(KK)(Kc))r(z" + times("z", 47) + ")" + times("d", behind);
    }

    private static void tooBig() {
        for (int how = 0; how <= 1; how++) {
            works(swells(1), how, 200, 5, "cd");
            due("SIZE 299 behind a STEP", with(swells(1)).steps(0, how), 5);
            due("SIZE 301 behind a STEP", with(swells(2)).steps(0, how), -3);
            leaves("SIZE 301 behind a STEP, though less would come", FULL, terms(swells(2)),
                how == 0 ? x -> x.work(0, 0, 200) : x -> x.work(0, 1, 200));
            // In the end just as in between.
            String z = "(b" + times("c", 35) + ")";
            due("SIZE 299 in the end", with("S(Saa)(Saa)" + z + "dd").steps(0, how), 3);
            due("SIZE 301 in the end", with("S(Saa)(Saa)" + z + "ddd").steps(0, how), -3);
        }
    }

    private static void takenOut() {
        holds("2 TAKEN OUT of a TERM, a NAME x, [x]: of x itself: I.", () -> takesOut("x", "I"));
        holds("Of a TERM in which x is not FREE: K PUT to it.", () -> {
            takesOut("y", "Ky");
            takesOut("I", "KI");
            takesOut("ab", "K(ab)");
            takesOut("^x.x", "KI");
        });
        holds("Of (M x), x not FREE in M: M.", () -> {
            takesOut("ax", "a");
            takesOut("a(bc)x", "a(bc)");
            takesOut("Kx", "K");
            takesOut("(^x.x)x", "I");
        });
        holds("Of (M N) else: x not FREE in M: B M [x]N; x not FREE in N: C [x]M N; else S [x]M [x]N"
            + " (each PUT to that behind it, from the left).", TermEdgeTests::puts);
        holds("(Looked at in this order.)", TermEdgeTests::inThisOrder);
        holds("For a BINDER in it: first that is COMPILED.", TermEdgeTests::boundWithin);
        holds("COMPILED: each BINDER, those within first, becomes its body with its NAME TAKEN OUT.", TermEdgeTests::compiled);
        holds("A STEP in a TERM without BINDERS: of what is outermost, there leftmost, one of:", TermEdgeTests::outermost);
        holds("I x: x.", () -> stepsTo("I(ab)", "ab"));
        holds("K x y: x.", () -> stepsTo("K(ab)(cd)", "ab"));
        holds("S x y z: x z PUT to (y z).", () -> stepsTo("S(ab)(cd)(ef)", "ab(ef)(cd(ef))"));
        holds("B x y z: x PUT to (y z).", () -> stepsTo("B(ab)(cd)(ef)", "ab(cd(ef))"));
        holds("C x y z: x z PUT to y.", () -> stepsTo("C(ab)(cd)(ef)", "ab(ef)(cd)"));
        holds("That is: of what a TERM begins with (M, of M N, and so on): if that is a SIGN that has as many PUT to it as it"
            + " wants (1, 2, 3, 3, 3), those are taken;", TermEdgeTests::asManyAsItWants);
        holds("else what was PUT to it, from the left, is looked at likewise, the first in which there is a STEP.",
            TermEdgeTests::fromTheLeft);
        holds("WORKED OUT, n STEPS at most: till there is none.", TermEdgeTests::tillThereIsNone);
        holds("PLAINLY: as told.", TermEdgeTests::plainly);
        holds("SHARED: what comes twice by S is one thing that stands twice, and what takes the place of something worked out"
            + " is that thing itself: a STEP within is done wherever it stands.", TermEdgeTests::shared);
        holds("It ends as well, if SIZE (all written out) is above 300 behind a STEP: TOO BIG.", TermEdgeTests::tooBig);
    }

    // ---- 3 KINDS

    private static void freeKinds() {
        isKind("x", "a");
        isKind("xy", "a");
        isKind("xyz", "a");
        isKind("xx", "");
        isKind("K(xI)(xK)", "");
        isKind("K(xI)(yK)", "a");
        // z is made the same as I by f, which stands twice.
        isKind("^z.K(fz)(fI)", "(a>a)>b");
        isKind("^z.K(fz)(gI)", "a>b");
        isKind("x(^x.xx)", "");
        isKind("x(^x.x)", "a");
        // Just behind a BINDER of that NAME it is FREE: what it is PUT to there does not go with what is within.
        isKind("(^p.^q.qK)(^x.xI)x", "a");
        isKind("^x.(^p.^q.qK)(xI)x", "");
    }

    private static void ownUnknowns() {
        isKind("II", "a>a");
        isKind("KI", "a>b>b");
        isKind("KK", "a>b>c>b");
        isKind("SKK", "a>a");
        isKind("BBB", "(a>b)>(c>d>a)>c>d>b");
        isKind("K(II)I", "a>a");
        // As many SIGNS as there may be.
        isKind("KI" + nested("B(", 57, "B"), "a>a");
        isKind("KI" + nested("S(", 57, "S"), "a>a");
        isKind("KI" + nested("B(", 53, "(SII)"), "");
    }

    private static String nested(String part, int n, String inside) {
        return "(" + times(part, n) + inside + times(")", n) + ")";
    }

    private static void putsKinds() {
        isKind("Kx", "a>b");
        isKind("Sx", "(a>b)>a>c");
        isKind("Bx", "(a>b)>a>c");
        isKind("Cx", "a>b>c");
        isKind("CI", "a>(a>b)>b");
        isKind("SI", "((a>b)>a)>(a>b)>b");
        isKind("SII", "");
    }

    private static void bindersKinds() {
        isKind("^x.x", "a>a");
        isKind("^x.y", "a>b");
        isKind("^x.^y.xy", "(a>b)>a>b");
        isKind("^x.^x.x", "a>b>b");
        isKind("^x.x(^x.x)", "((a>a)>b)>b");
        isKind("^f.^x.f(fx)", "(a>a)>a>a");
        isKind("^x.xx", "");
        isKind("(^f.K(fI)(fK))I", "");
        isKind("(^x.x)(^x.x)", "a>a");
    }

    private static void withinItself() {
        isKind("SII", "");
        isKind("xx", "");
        isKind("^x.xx", "");
        isKind("KI(SII)", "");
        isKind("KI(^x.xx)", "");
        isKind("a(SII)", "");
        isKind("^x.^y.K(xy)(yx)", "");
        // In a ring of two.
        isKind("K(K(f(xa))(fy))(K(g(yb))(gx))", "");
        isKind("K(K(f(xa))(fy))(K(g(yb))(gz))", "a");
        // Far inside what grows twice as wide each time.
        isKind(times("(^x.^f.fxx)(", 12) + "^x.xx" + times(")", 12), "");
    }

    private static void kindsWritten() {
        isKind("^z.^y.^x.y", "a>b>c>b");
        isKind("B", "(a>b)>(c>a)>c>b");
        isKind("^f.f", "a>a");
        isKind("^x.^y.^z.xz(yz)", "(a>b>c)>(a>b)>a>c");
        isKind("^f.f(^g.gx)", "(((a>b)>b)>c)>c");
        isKind("^f.^g.fg", "(a>b)>a>b");
        isKind("^x.^f.fx", "a>(a>b)>b");
    }

    private static String letters(int n) {
        StringBuilder b = new StringBuilder();
        for (int i = 0; i < n; i++) {
            b.append((char) (97 + i)).append('>');
        }
        return b.toString();
    }

    /** The KIND of ^f.^x.fx..x, 43 times, has 93 signs; this has it twice and has 197. */
    private static final String TWICE = "(^x.^f.fxx)(^f.^x.f" + times("x", 43) + ")";

    private static void isTooLong(String text) {
        leaves("of " + text, FULL, terms(text), x -> x.of(0, 11), x -> x.kind(0, 0), x -> x.kind(0, MOST),
            x -> x.sameKind(0, 0));
        due("it has a KIND, though: " + text, with(text).of(0, 10), 1);
    }

    private static void kindsAtTheEdge() {
        isKind(times("K(", 25) + "I" + times(")", 25), letters(26) + "z");
        isTooLong(times("K(", 26) + "I" + times(")", 26));
        isTooLong(times("K(", 29) + "I" + times(")", 29));
        due("197 signs", with(TWICE).of(0, 11), 197);
        Press most = with("K(" + TWICE + ")");
        due("199 signs", most.of(0, 11), 199);
        due("the last of them", most.kind(0, 198), 'd');
        due("behind them", most.kind(0, 199), NONE);
        isTooLong("K(K(" + TWICE + "))");
        isTooLong("(^x.^f.fxx)(" + TWICE + ")");
        isTooLong(times("(^x.^f.fxx)(", 13) + "I" + times(")", 13));
        tooLongAgain();
    }

    /** However often it is asked, one behind the other, and with other KINDS in between. */
    private static void tooLongAgain() {
        Press x = with(times("(^x.^f.fxx)(", 13) + "I" + times(")", 13), "SII", "BBB", WIDE);
        for (int i = 0; i < 4; i++) {
            due("signs again", x.of(0, 11), FULL);
            due("it has a KIND again", x.of(0, 10), 1);
            due("the first sign again", x.kind(0, 0), FULL);
            due("the same as itself again", x.sameKind(0, 0), FULL);
            due("none", x.of(1, 11), NONE);
            due("beside none", x.sameKind(0, 1), FULL);
            due("none beside it", x.sameKind(1, 0), FULL);
            due("27 letters", x.of(3, 11), FULL);
            due("some", x.of(2, 11), 19);
            due("beside some", x.sameKind(0, 2), FULL);
        }
    }

    private static void kinds() {
        holds("3 KINDS: of a NAME that is FREE, an unknown one of its own (the same wherever it stands);",
            TermEdgeTests::freeKinds);
        holds("of I: a>a.", () -> isKind("I", "a>a"));
        holds("K: a>b>a.", () -> isKind("K", "a>b>a"));
        holds("S: (a>b>c)>(a>b)>a>c.", () -> isKind("S", "(a>b>c)>(a>b)>a>c"));
        holds("B: (b>c)>(a>b)>a>c.", () -> isKind("B", "(a>b)>(c>a)>c>b"));
        holds("C: (a>b>c)>b>a>c", () -> isKind("C", "(a>b>c)>b>a>c"));
        holds("(for each SIGN wherever it stands with unknown ones of its own).", TermEdgeTests::ownUnknowns);
        holds("Of (M N): M is of KIND k>l, N of k, it of l.", TermEdgeTests::putsKinds);
        holds("Of a BINDER: k>l, its NAME of k (the same all over the body), its body of l.", TermEdgeTests::bindersKinds);
        holds("The MOST GENERAL KIND of a TERM: all that must be the same being so, nothing else;", () -> {
            isKind("SK", "(a>b)>a>a");
            isKind("^x.^y.x", "a>b>a");
            isKind("SBI", "(a>a)>a>a");
            isKind("^f.^g.fx(g(^y.x))", "(a>b>c)>((d>a)>b)>c");
        });
        holds("none, if a KIND would have itself within it.", TermEdgeTests::withinItself);
        holds("WRITTEN: unknown ones as letters 97, 98, .. as they come first; k>l with '>', k in '(' ')' if it is of that form.",
            TermEdgeTests::kindsWritten);
        holds("(FULL: more than 200 signs, more than 26 letters.)", TermEdgeTests::kindsAtTheEdge);
    }

    // ---- lots, what is undone, images

    private static String byLots(int n, int seed) {
        BigInteger[] x = {BigInteger.valueOf(seed)};
        String term = "" + SIGNS.charAt(lot(x, 5));
        boolean puts = false;
        for (int i = 1; i < n; i++) {
            int side = lot(x, 2);
            char sign = SIGNS.charAt(lot(x, 5));
            term = side == 0 ? term + sign : sign + (puts ? "(" + term + ")" : term);
            puts = true;
        }
        return term;
    }

    private static int lot(BigInteger[] x, int of) {
        x[0] = x[0].multiply(BigInteger.valueOf(16807)).mod(BigInteger.valueOf(2147483647));
        return x[0].mod(BigInteger.valueOf(of)).intValue();
    }

    private static void lots() {
        due("by hand, from 1", byLots(6, 1), "I(BSICB)");
        int[] seeds = {1, 2, 3, 4, 5, 127773, 127774, 500000, 999998, 999999};
        int[] many = {1, 2, 3, 10, 39, 40};
        for (int seed : seeds) {
            for (int n : many) {
                Press x = new Press();
                due("drift of " + n + ", " + seed, x.drift(0, n, seed), 2 * n - 1);
                due("that", x.written(0), byLots(n, seed));
            }
        }
    }

    /** A run of changes, each of another size on the next shelf; then all of them that can be are undone. */
    private static void undoes(int changes) {
        Press x = new Press();
        for (int i = 0; i < changes; i++) {
            x.drift(i % 3, i + 1, 1);
            due("told(2)", x.told(2), Math.min(i + 1, 10));
        }
        int kept = Math.min(changes, 10);
        for (int k = kept - 1; k >= 0; k--) {
            due("undo()", x.undo(), k);
            int left = changes - kept + k;
            for (int s = 0; s < 3; s++) {
                int latest = left - 1 - Math.floorMod(left - 1 - s, 3);
                due("shelf " + s, x.of(s, 0), latest < 0 ? NOT : 2 * latest + 1);
            }
        }
        due("undo() of none", x.undo(), NOT);
        due("told(2)", x.told(2), 0);
    }

    private static void undone() {
        int[] many = {0, 1, 2, 9, 10, 11, 12, 19, 20, 21, 35, 40};
        for (int changes : many) {
            undoes(changes);
        }
        // What is undone makes room at the near end, not at the far one.
        Press x = new Press();
        for (int i = 0; i < 10; i++) {
            x.drift(0, i + 1, 1);
        }
        x.undo();
        x.undo();
        x.drift(0, 30, 1);
        due("nine can be undone", x.told(2), 9);
        for (int k = 8; k >= 0; k--) {
            due("undo()", x.undo(), k);
            due("SIZE", x.of(0, 0), k == 0 ? NOT : 2 * k - 1);
        }
    }

    private static void images() {
        Press x = with("a", "bc", "^x.x");
        x.keep(0);
        x.read(3, "I");
        x.drop(1);
        x.keep(1);
        for (int s = 0; s < 4; s++) {
            x.drift(s, 2, 2);
        }
        x.goBack(0);
        due("IMAGE 0", x.written(0) + "," + x.written(1) + "," + x.written(2) + "," + x.written(3), "a,bc,^x.x,");
        x.goBack(1);
        due("IMAGE 1", x.written(0) + "," + x.written(1) + "," + x.written(2) + "," + x.written(3), "a,,^x.x,I");
        due("IMAGE 2", x.keep(2), UNKNOWN);
        due("IMAGE 2", x.goBack(2), UNKNOWN);
    }

    private static void lotsAndImages() {
        holds("BY LOTS of a SEED, n signs: X (the SEED at first) becomes what is left of (X times 16807) by 2147483647 ahead of"
            + " each number wanted: first the SIGN (of I K S B C) X left over by 5; then, n less 1 times: X left over by 2,"
            + " then the SIGN X left over by 5: on 0 the TERM so far is PUT to that SIGN, (TERM SIGN); on 1 the other way"
            + " round, (SIGN TERM).", TermEdgeTests::lots);
        holds("UNDONE: the latest change of a SHELF (10 at most are kept, the oldest are lost).", TermEdgeTests::undone);
        holds("IMAGES 0, 1 keep all SHELVES.", TermEdgeTests::images);
        saysNothingToTest("Ahead of the calls `feed`, `term`, `fault`, `compile`, `takeOut`, `put`, `putIn`, `work`, `drop`,"
            + " `drift`, `undo` the interface says: ---- terms.");
        saysNothingToTest("Ahead of the calls `told`, `of`, `sign`, `kind`, `steps`, `same`, `sameKind` the interface says:"
            + " ---- what is told.");
        saysNothingToTest("Ahead of the calls `keep`, `goBack` the interface says: ---- images.");
    }

    public static void main(String[] args) {
        begin("Terms");
        numbersAndRefusals();
        terms();
        takenOut();
        kinds();
        lotsAndImages();
        end();
    }
}
