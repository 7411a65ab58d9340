/** The edges that the promises 1 to 21 name, a test for each sentence; and the 512 calls of an object. */
public final class PromiseEdgeTests extends Sentences {
    private static final Script SOME = Sentences::something;

    /** Its KIND has 27 letters: one more than can be WRITTEN. */
    private static final String WIDE = times("K(", 26) + "I" + times(")", 26);

    /** Its KIND has 26 letters. */
    private static final String LESS_WIDE = times("K(", 25) + "I" + times(")", 25);

    /** Its KIND has 197 signs; in K(..) it has two more. */
    private static final String LONG = "(^x.^f.fxx)(^f.^x.f" + times("x", 43) + ")";

    /** SIZE 17; it grows above 300. */
    private static final String GROWS = "SSS(SSS)(SSS)";

    /** SIZES 59 and 60, with three signs to nearly each. */
    private static final String BINDERS_58 = times("^x.", 58) + "x";
    private static final String BINDERS_59 = times("^x.", 59) + "x";

    // ---- what it is

    private static void upTo512Calls() {
        Press x = new Press();
        for (int round = 0; x.calls() < 500; round++) {
            x.drift(round % 4, 1 + round % 40, 1 + round);
            x.work(round % 4, round % 2, 200);
            x.feed('(');
        }
        int letters = x.told(0);
        due("letters", letters, 167);
        x.drift(0, 6, 1);
        due("signs", x.of(0, 8), 8);
        while (x.calls() < 511) {
            x.undo();
        }
        due("call 512", x.term(0), -11);
        due("calls", x.calls(), 512);
    }

    /** What comes behind them is free, but every call must come back. */
    private static void behind512Calls() {
        BinderPress x = new BinderPress();
        int cameBack = 0;
        for (int i = 0; i < 3000; i++) {
            x.feed(i % 256);
            x.drift(i % 4, 1 + i % 40, 1 + i);
            x.put(i % 4, (i + 1) % 4, (i + 2) % 4);
            x.takeOut(i % 4, 97 + i % 26);
            x.work(i % 4, i % 2, i % 201);
            x.term(i % 9 == 0 ? 0 : 4);
            x.keep(i % 2);
            x.goBack(i % 2);
            x.undo();
            x.sameKind(i % 4, (i + 1) % 4);
            cameBack += 10;
        }
        due("calls that came back", cameBack, 30000);
    }

    /** What a TERM is worked out to; it is looked at that this ends, so that there is something to compare. */
    private static String workedOut(Press x, int s) {
        boolean ends = x.steps(s, 0) >= 0;
        due("it is worked out: " + x.written(s), ends ? 1 : 0, 1);
        x.work(s, 0, 200);
        return x.written(s);
    }

    /** A NAME TAKEN OUT of a body, and a BINDER of it COMPILED, each PUT to something, against putIn. */
    private static void putToSomething(String body, String something) {
        Press x = with(body, something, body, "^x." + body);
        x.putIn(0, 'x', 1);
        String due = workedOut(x, 0);
        x.takeOut(2, 'x');
        x.compile(3);
        due("a BINDER COMPILED is its NAME TAKEN OUT: " + body, x.written(3), x.written(2));
        due("x is not FREE any more", x.of(2, 1) & 1 << 'x' - 97, 0);
        x.put(2, 2, 1);
        due(body + " with " + something + " for x", workedOut(x, 2), due);
    }

    private static void worksOutAsTheBody() {
        String[] bodies = {"x", "y", "K", "xx", "xy", "yx", "x(yx)", "xyx", "y(zx)", "yz", "yxz", "x(xx)", "xx(xx)", "Kxy",
            "Kx", "Sxyz", "S(Kx)xy", "BxCy", "C(xy)x", "y(x(yx))(xy)", "Cyx(xz)", "S(xy)(yx)x", "I(Ix)", "KI(xx)x"};
        String[] somethings = {"a", "x", "ab", "K", "I", "KI", "a(bx)", "CI", "Ia", "SKK", "x(ax)"};
        for (String body : bodies) {
            for (String something : somethings) {
                putToSomething(body, something);
            }
        }
    }

    /** Two BINDERS, one by one, put to two: as the body with both in place. */
    private static void oneByOne() {
        String[] bodies = {"xy", "yx", "x", "y", "xx", "yy", "z", "x(yx)", "y(xy)x", "zxy", "z(yx)", "xzy", "K(xy)x"};
        for (String body : bodies) {
            Press x = with("^x.^y." + body, "a", "bc", body);
            x.putIn(3, 'x', 1);
            x.putIn(3, 'y', 2);
            x.compile(0);
            x.put(0, 0, 1);
            x.put(0, 0, 2);
            due("^x.^y." + body, workedOut(x, 0), workedOut(x, 3));
        }
    }

    /** Both ways end with the same TERM, and SHARED never wants more STEPS; that it wants fewer happens often. */
    private static void workedOnButOnce() {
        int fewer = 0;
        int asMany = 0;
        for (int seed = 1; seed <= 1000; seed++) {
            Press x = new Press();
            x.drift(0, 20, seed);
            x.drift(1, 20, seed + 1000);
            x.put(2, 0, 1);
            x.put(3, 0, 1);
            int plainly = x.steps(2, 0);
            int shared = x.steps(3, 1);
            if (plainly < 0) {
                continue;
            }
            due("SHARED ends, in no more STEPS, seed " + seed, shared >= 0 && shared <= plainly ? 1 : 0, 1);
            fewer += shared < plainly ? 1 : 0;
            asMany += shared == plainly ? 1 : 0;
            boolean full = x.work(2, 0, 200) == FULL;
            due("FULL both ways, seed " + seed, x.work(3, 1, 200) == FULL ? 1 : 0, full ? 1 : 0);
            due("the same TERM, seed " + seed, x.same(2, 3), 1);
        }
        due("some want fewer STEPS", fewer > 50 ? 1 : 0, 1);
        due("some want as many", asMany > 50 ? 1 : 0, 1);
    }

    private static void whatItIs() {
        begin("What it is");
        String calls = "An object is used for at most 512 calls after it has been made;";
        holds(calls, PromiseEdgeTests::upTo512Calls);
        holds("what later calls answer is free.", PromiseEdgeTests::behind512Calls);
        holds("its binders taken out one by one by rules that look where the name stands", PromiseEdgeTests::oneByOne);
        holds("so that what comes, put to something, works out as the body with that in place of the name",
            PromiseEdgeTests::worksOutAsTheBody);
        holds("terms worked out step by step from the left outside, plainly, or so that what stands twice is worked on but"
            + " once", PromiseEdgeTests::workedOnButOnce);
        saysNothingToTest("Names that bind are taken out of sentences: terms of names, of what is put to what, of binders, and"
            + " of five signs that do all that binders did; a term told in a text with the first fault,");
        saysNothingToTest("sizes, names that are free, which signs, how often, in how many steps; what a term may be put to,"
            + " the most general kinds, written out; shelves of terms, put to one another, names put in, terms by lots, what"
            + " was done undone, images.");
    }

    // ---- 1 to 4: a new object, the text

    private static void newObject() {
        begin("Promise 1: A new object");
        holds("Empty SHELVES.", () -> {
            due("shelves that have a TERM", with().told(1), 0);
            for (int s = 0; s < 4; s++) {
                due("SIZE of shelf " + s, with().of(s, 0), NOT);
                due("drop of shelf " + s, with().drop(s), NOT);
            }
            due("letters", with().told(0), 0);
            due("what can be undone", with().told(2), 0);
            due("undo()", with().undo(), NOT);
            due("fault()", with().fault(), NONE);
            due("goBack(0)", with().goBack(0), NOT);
            due("goBack(1)", with().goBack(1), NOT);
            Press first = with("abc");
            due("another object has none of it", with().told(1), 0);
            due("the first has it still", first.told(1), 1);
        });
    }

    private static void feed() {
        begin("Promise 2: feed");
        holds("One letter (a number 0 .. 255) comes behind THE TEXT: how many it has.", () -> {
            due("the least", with().feed(0), 1);
            due("the most", with().feed(255), 1);
            Press x = new Press();
            for (int c = 0; c < 240; c++) {
                due("letter " + c, x.feed(c), c + 1);
            }
            for (int c = 240; c <= 255; c++) {
                due("letter " + c, with().feed(c), 1);
            }
            Press y = new Press();
            y.feedAll("ab");
            y.feed('c');
            y.term(0);
            due("each behind the others", y.written(0), "abc");
            due("the first of a new text", y.feed('d'), 1);
        });
        holds("OUTSIDE", () -> leaves("feed", OUTSIDE, SOME, x -> x.feed(-1), x -> x.feed(256), x -> x.feed(LEAST),
            x -> x.feed(MOST), x -> x.feed(97 + 256), x -> x.feed(-1000)));
        holds("FULL (240)", () -> {
            Script nearly = x -> x.feedAll(times(" ", 238) + "b");
            due("letter 240", made(nearly).feed('a'), 240);
            Script full = then(nearly, x -> x.feed('a'));
            leaves("letter 241", FULL, full, x -> x.feed('a'), x -> x.feed(0), x -> x.feed(255));
            Press x = made(full);
            x.feed('c');
            x.term(0);
            due("letter 241 is not there", x.written(0), "ba");
            due("behind a term() there is room", x.feed('c'), 1);
        });
    }

    private static void term() {
        begin("Promise 3: term");
        holds("THE TEXT (it is empty then, with a FAULT, too) becomes the TERM of a SHELF: its SIZE;", () -> {
            for (int s = 0; s < 4; s++) {
                Press x = new Press();
                due("term(" + s + ")", x.read(s, "abc"), 5);
                due("that", x.written(s), "abc");
                due("no other", x.told(1), 1 << s);
                due("letters then", x.told(0), 0);
            }
            Press x = with("abc");
            due("instead of another", x.read(0, "^x.x"), 2);
            due("that", x.written(0), "^x.x");
            due("both can be undone", x.told(2), 2);
            due("with a FAULT", x.read(0, "a)"), -11);
            due("letters then", x.told(0), 0);
            due("a FAULT of no text", x.term(0), -11);
            due("the shelf", x.written(0), "^x.x");
            due("a FAULT is no change", x.told(2), 2);
            due("the least", with().read(0, "a"), 1);
            due("the largest", with().read(0, "^x." + times("a", 60)), 120);
        });
        holds("THE TEXT (it is empty then, with a FAULT, too) becomes the TERM of a SHELF: its SIZE;",
            PromiseEdgeTests::nothingOfAText);
        holds("-10 less the number of its FAULT.", () -> {
            due("FAULT 1", with().read(0, ")"), -11);
            due("FAULT 1 of no text", with().term(3), -11);
            due("FAULT 2", with().read(0, times("a", 61)), -12);
        });
        holds("UNKNOWN (THE TEXT stays).", () -> {
            leaves("term", UNKNOWN, SOME, x -> x.term(-1), x -> x.term(4), x -> x.term(LEAST), x -> x.term(MOST));
            Press x = made(SOME);
            x.term(4);
            due("letters", x.told(0), 2);
            due("term of what stayed", x.term(3), 3);
            due("that", x.written(3), "bc");
            leaves("a text with a FAULT stays, too", UNKNOWN, y -> y.feedAll("a)"), y -> y.term(4));
            leaves("no text", UNKNOWN, y -> y.read(0, "ab)"), y -> y.term(-1));
        });
    }

    /** What a text left open, or whatever else was wrong with it, is not there for the next one. */
    private static void nothingOfAText() {
        String[] first = {"(", "((a", "^", "^x", "^x.", "(^x.", "(a^x.b", "a^", ")", "a)", "(()", "D", times("a", 61), "ab",
            times("(", 240), times("(", 239) + "a", times("^x.", 80), times("(^x.", 48)};
        String[] next = {"", "a", "ab", "a)", ")", "a))", ".", ".x", "x", "x.x", "^x.x", "(^x.x)a", "(a", "(a)b", times("a", 61),
            "a(^x.b)c", "a(b(^x.^y.c)d)e"};
        for (String text : first) {
            for (String behind : next) {
                Press x = new Press();
                Press alone = new Press();
                x.read(1, text);
                due(behind + " behind " + text, x.read(0, behind), alone.read(0, behind));
                due("its FAULT", x.fault(), alone.fault());
                due("that", x.written(0), alone.written(0));
            }
        }
    }

    private static void fault() {
        begin("Promise 4: fault");
        holds("The letter of the FAULT of the latest term() that was not refused;", () -> {
            Press x = new Press();
            x.read(0, "abc)");
            due("fault()", x.fault(), 3);
            due("fault() again", x.fault(), 3);
            x.feedAll(")");
            due("ahead of the next term()", x.fault(), 3);
            x.term(4);
            due("behind one refused", x.fault(), 3);
            x.term(3);
            due("behind the next", x.fault(), 0);
            x.term(3);
            due("of no text", x.fault(), 0);
            x.read(3, "(((");
            due("at the text's length", x.fault(), 3);
            x.read(3, times("a", 61));
            due("FAULT 2", x.fault(), 60);
            x.read(3, times("(", 240));
            due("the last there is", x.fault(), 240);
        });
        holds("The letter of the FAULT of the latest term() that was not refused;", () -> {
            Press x = new Press();
            x.read(1, "SII");
            x.read(0, "ab)");
            Call[] others = {y -> y.compile(1), y -> y.takeOut(1, 97), y -> y.put(2, 1, 1), y -> y.putIn(1, 97, 1),
                y -> y.work(1, 0, 1), y -> y.drift(3, 1, 1), y -> y.drop(3), y -> y.undo(), y -> y.keep(0),
                y -> y.goBack(0), y -> y.feed('a'), y -> y.told(0), y -> y.of(1, 11), y -> y.sign(1, 0)};
            for (int i = 0; i < others.length; i++) {
                others[i].on(x);
                due("behind another call " + i, x.fault(), 2);
            }
        });
        holds("NONE.", () -> {
            due("of a new object", with().fault(), NONE);
            Press x = with("a");
            due("behind a TERM", x.fault(), NONE);
            x.read(0, "a)");
            x.read(1, "a");
            due("a TERM behind a FAULT", x.fault(), NONE);
            x.feed(')');
            x.term(4);
            due("behind one refused", x.fault(), NONE);
        });
    }

    // ---- 5 to 8: compile, takeOut, put, putIn

    private static void compile() {
        begin("Promise 5: compile");
        holds("COMPILED: SIZE.", () -> {
            for (int s = 0; s < 4; s++) {
                Press x = new Press();
                x.read(s, "^f.^x.f(fx)");
                due("compile(" + s + ")", x.compile(s), 5);
                due("that", x.written(s), "SBI");
                due("BINDERS", x.of(s, 2), 0);
                due("what can be undone", x.told(2), 2);
                due("undo()", x.undo(), 1);
                due("as it was", x.written(s), "^f.^x.f(fx)");
            }
            due("the least", with("^x.x").compile(0), 1);
            Press x = with("ab");
            due("without BINDERS", x.compile(0), 3);
            due("that", x.written(0), "ab");
        });
        holds("UNKNOWN", () -> leaves("compile", UNKNOWN, SOME, x -> x.compile(-1), x -> x.compile(4),
            x -> x.compile(LEAST), x -> x.compile(MOST)));
        holds("NOT", () -> leaves("compile", NOT, SOME, x -> x.compile(3)));
        holds("FULL (120)", () -> {
            due("to 119", with("^x." + times("a", 59)).compile(0), 119);
            leaves("to 121", FULL, terms("^x." + times("a", 60)), x -> x.compile(0));
            due("above 120 in between, 117 in the end", with("^a.^b.^c.(^x.x" + times("K", 29) + ")abc").compile(0), 117);
            due("above 120 in between, 119 in the end", with("^a.^b.^c.(^x.x" + times("K", 28) + "(KK))abc").compile(0), 119);
            leaves("above 120 in between, 121 in the end", FULL, terms("^a.^b.^c.(^x.x" + times("K", 30) + ")abc"),
                x -> x.compile(0));
            leaves("far above", FULL, terms(times("^a.^b.^c.^d.^e.", 3) + times("(abcde)", 9)), x -> x.compile(0));
            Press x = with("^x." + times("a", 60));
            x.compile(0);
            due("it has its BINDER still", x.of(0, 2), 1);
            due("and its SIZE", x.of(0, 0), 120);
        });
    }

    private static void takeOut() {
        begin("Promise 6: takeOut");
        holds("A NAME is TAKEN OUT of it (COMPILED first): SIZE.", () -> {
            Press x = with("ax", "^y.yx", "x", "a(xb)");
            due("takeOut(0)", x.takeOut(0, 'x'), 1);
            due("takeOut(1)", x.takeOut(1, 'x'), 3);
            due("takeOut(2)", x.takeOut(2, 'x'), 1);
            due("takeOut(3)", x.takeOut(3, 'x'), 9);
            due("those", x.written(0) + "," + x.written(1) + "," + x.written(2) + "," + x.written(3), "a,CI,I,Ba(CIb)");
            due("what can be undone", x.told(2), 8);
            x.undo();
            due("as it was", x.written(3), "a(xb)");
            due("the first NAME", with("a").takeOut(0, 97), 1);
            due("the last NAME", with("z").takeOut(0, 122), 1);
            due("one that is not there", with("z").takeOut(0, 97), 3);
        });
        holds("UNKNOWN", () -> leaves("takeOut", UNKNOWN, SOME, x -> x.takeOut(-1, 97), x -> x.takeOut(4, 97),
            x -> x.takeOut(LEAST, 97), x -> x.takeOut(MOST, 97)));
        holds("OUTSIDE (the NAME)", () -> {
            for (int name : NO_NAMES) {
                leaves("takeOut of " + name, OUTSIDE, SOME, x -> x.takeOut(0, name), x -> x.takeOut(1, name));
            }
        });
        holds("NOT", () -> leaves("takeOut", NOT, SOME, x -> x.takeOut(3, 97), x -> x.takeOut(3, 122)));
        holds("FULL", () -> {
            due("to 119", with(times("a", 59)).takeOut(0, 'b'), 119);
            leaves("to 121", FULL, terms(times("a", 60)), x -> x.takeOut(0, 'b'));
            due("of 119, to 117", with(times("a", 59) + "b").takeOut(0, 'b'), 117);
            leaves("compiled it is 121, and more then", FULL, terms("^x." + times("a", 60)), x -> x.takeOut(0, 'b'));
            due("121 in between, 119 in the end", with("(^x.x" + times("K", 28) + "(KK))y").takeOut(0, 'y'), 119);
            leaves("far above", FULL, terms(times("^a.^b.^c.^d.^e.", 3) + times("(abcde)", 9)), x -> x.takeOut(0, 'f'));
        });
    }

    private static void put() {
        begin("Promise 7: put");
        holds("A SHELF has a TERM PUT to another one (each may be the same SHELF): SIZE.", () -> {
            String[] terms = {"ab", "^x.x"};
            String[] alone = {"ab", "^x.x"};
            String[] first = {"ab", "(^x.x)"};
            String[] second = {"(ab)", "(^x.x)"};
            int[] sizes = {3, 2};
            for (int s = 0; s < 3; s++) {
                for (int m = 0; m < 2; m++) {
                    for (int n = 0; n < 2; n++) {
                        Press x = with(terms);
                        due("put(" + s + ", " + m + ", " + n + ")", x.put(s, m, n), 1 + sizes[m] + sizes[n]);
                        due("that", x.written(s), first[m] + second[n]);
                        due("what can be undone", x.told(2), 3);
                        x.undo();
                        due("as it was", x.written(s), s < 2 ? alone[s] : "");
                    }
                }
            }
            Press x = with("a");
            due("onto the last shelf", x.put(3, 0, 0), 3);
            due("of the last shelf", x.put(0, 3, 3), 7);
        });
        holds("UNKNOWN", () -> {
            for (int s : NO_SHELVES) {
                leaves("put " + s, UNKNOWN, SOME, x -> x.put(s, 0, 1), x -> x.put(0, s, 1), x -> x.put(0, 1, s),
                    x -> x.put(s, s, s));
            }
        });
        holds("NOT: m or n is empty;", () -> {
            leaves("put", NOT, SOME, x -> x.put(0, 3, 1), x -> x.put(0, 1, 3), x -> x.put(0, 3, 3), x -> x.put(3, 3, 0));
            due("s may be empty", made(SOME).put(3, 0, 1), 8);
        });
        holds("FULL", () -> {
            Script state = terms("^x." + times("a", 30), times("b", 30), "^x.^y." + times("a", 30));
            due("to 120", made(state).put(3, 0, 1), 120);
            due("to 120, the other way round", made(state).put(3, 1, 0), 120);
            leaves("to 121", FULL, state, x -> x.put(3, 2, 1), x -> x.put(2, 2, 1), x -> x.put(0, 0, 0));
            Script most = terms("^x." + times("a", 60));
            leaves("of two that have 120", FULL, most, x -> x.put(0, 0, 0), x -> x.put(3, 0, 0));
        });
    }

    private static void putIn() {
        begin("Promise 8: putIn");
        holds("A NAME, where it is FREE in a TERM without BINDERS, becomes the TERM of SHELF n: SIZE.", () -> {
            Press x = with("xax", "bc");
            due("putIn(0, x, 1)", x.putIn(0, 'x', 1), 9);
            due("that", x.written(0), "bca(bc)");
            due("what was put in stays", x.written(1), "bc");
            due("what can be undone", x.told(2), 3);
            due("undo()", x.undo(), 2);
            due("as it was", x.written(0), "xax");
            due("its own", x.putIn(0, 'x', 0), 13);
            due("that", x.written(0), "xaxa(xax)");
            due("a NAME that is not there", x.putIn(0, 'q', 1), 13);
            due("that", x.written(0), "xaxa(xax)");
            Press y = with("az", "za");
            due("the first NAME", y.putIn(0, 97, 1), 5);
            due("that", y.written(0), "zaz");
            due("the last NAME", y.putIn(0, 122, 1), 9);
            due("what comes in is not looked at again", y.written(0), "zaa(za)");
            Press last = new Press();
            last.read(3, "x");
            due("on the last shelf", last.putIn(3, 'x', 3), 1);
        });
        holds("UNKNOWN", () -> {
            for (int s : NO_SHELVES) {
                leaves("putIn " + s, UNKNOWN, SOME, x -> x.putIn(s, 97, 2), x -> x.putIn(2, 97, s));
            }
        });
        holds("OUTSIDE", () -> {
            for (int name : NO_NAMES) {
                leaves("putIn of " + name, OUTSIDE, SOME, x -> x.putIn(0, name, 2));
            }
        });
        holds("NOT: one is empty, has BINDERS;", () -> leaves("putIn", NOT, SOME, x -> x.putIn(3, 97, 0),
            x -> x.putIn(0, 97, 3), x -> x.putIn(3, 97, 3), x -> x.putIn(1, 97, 0), x -> x.putIn(0, 97, 1),
            x -> x.putIn(0, 122, 1), x -> x.putIn(1, 97, 1)));
        holds("FULL", () -> {
            due("to 119", with(times("a", 58) + "x", "bc").putIn(0, 'x', 1), 119);
            leaves("to 121", FULL, terms(times("a", 59) + "x", "bc"), x -> x.putIn(0, 'x', 1));
            due("one for one, of 119", with(times("a", 60), "b").putIn(0, 'a', 1), 119);
            due("to 119, many times", with(times("a", 15), "bcde").putIn(0, 'a', 1), 119);
            leaves("to 121, many times", FULL, terms("c" + times("a", 15), "bcde"), x -> x.putIn(0, 'a', 1));
            leaves("far above", FULL, terms(times("a", 60)), x -> x.putIn(0, 'a', 0));
        });
    }

    // ---- 9 to 12: work, drop, drift, undo

    private static void works(String text, int how, int most, int done, String want) {
        Press x = with(text);
        due("work(0, " + how + ", " + most + ") of " + text, x.work(0, how, most), done);
        due("that", x.written(0), want);
        due("what can be undone", x.told(2), 2);
        x.undo();
        due("as it was", x.written(0), text);
    }

    /** a (a .. (a a)): as many times a ahead of the last two. */
    private static String row(int n) {
        return times("a(", n) + "aa" + times(")", n);
    }

    private static void work() {
        begin("Promise 9: work");
        holds("WORKED OUT, n STEPS (0 .. 200) at most, PLAINLY (how = 0), SHARED (1): STEPS that were done.", () -> {
            for (int how = 0; how <= 1; how++) {
                works("I(Ia)", how, 0, 0, "I(Ia)");
                works("I(Ia)", how, 1, 1, "Ia");
                works("I(Ia)", how, 2, 2, "a");
                works("I(Ia)", how, 200, 2, "a");
                works("a", how, 200, 0, "a");
                works("a", how, 0, 0, "a");
                due("200 that do not end", with("SII(SII)").work(0, how, 200), 200);
                Press last = new Press();
                last.read(3, "Ia");
                due("on the last shelf", last.work(3, how, 200), 1);
            }
            works("SII(Ia)", 0, 200, 5, "aa");
            works("SII(Ia)", 1, 200, 4, "aa");
            due("200 and no more, PLAINLY", with(plainly(9)).work(0, 0, 200), 200);
            due("200 and one more, PLAINLY", with(plainly(10)).work(0, 0, 200), 200);
            due("200 and no more, SHARED", with(shared(14)).work(0, 1, 200), 200);
            due("200 and one more, SHARED", with(shared(15)).work(0, 1, 200), 200);
            works(shared(14), 1, 200, 200, "a");
            works(shared(14), 1, 199, 199, "Ia");
            // Many of these STEPS make more than one thing, on top of many: S I g a becomes a (g a) 27 and 16 times.
            String many = "b(SB(SBI)(SB(SBI))(S(SKK))aa)(SB(SB(SBI))(SBI)(S(SKK))aa)" + times("c", 12);
            works(many, 1, 200, 199, "b(" + row(27) + ")(" + row(16) + ")" + times("c", 12));
        });
        holds("UNKNOWN", () -> {
            for (int s : NO_SHELVES) {
                leaves("work " + s, UNKNOWN, SOME, x -> x.work(s, 0, 1), x -> x.work(s, 1, 200));
            }
        });
        holds("OUTSIDE", () -> {
            for (int how : NO_HOW) {
                leaves("work how " + how, OUTSIDE, SOME, x -> x.work(0, how, 1), x -> x.work(0, how, 0));
            }
            int[] noSteps = {-1, 201, LEAST, MOST};
            for (int n : noSteps) {
                leaves("work n " + n, OUTSIDE, SOME, x -> x.work(0, 0, n), x -> x.work(0, 1, n));
            }
        });
        holds("NOT: it is empty, has BINDERS;", () -> leaves("work", NOT, SOME, x -> x.work(3, 0, 0), x -> x.work(3, 1, 200),
            x -> x.work(1, 0, 0), x -> x.work(1, 1, 0), x -> x.work(1, 0, 200), x -> x.work(1, 1, 200)));
        holds("FULL: SIZE is above 120 in the end (TOO BIG, too).", PromiseEdgeTests::workToTheFull);
    }

    private static void workToTheFull() {
        for (int h = 0; h <= 1; h++) {
            int how = h;
            // S a b z becomes a z (b z).
            String z = "(c" + times("c", 28) + ")";
            due("119 in the end", with("Sab" + z).work(0, how, 1), 1);
            leaves("121 in the end", FULL, terms("Sab" + z + "d"), x -> x.work(0, how, 1), x -> x.work(0, how, 200));
            // K K z (I z), then K (I z), then K z: 111 in the end.
            String large = "S(KK)I(a" + times("b", 54) + ")";
            leaves("above 120 where it ends", FULL, terms(large), x -> x.work(0, how, 1));
            due("above 120 in between", with(large).work(0, how, 2), 2);
            due("above 120 in between", with(large).work(0, how, 200), 3);
            leaves("TOO BIG", FULL, terms(GROWS), x -> x.work(0, how, 200), x -> x.work(0, how, 50));
            due("no STEP yet", with(GROWS).work(0, how, 0), 0);
            // Above 300 behind the second STEP, and 3 behind the fifth.
            String swells = "S(S(KK)(Kc))r(z" + times("z", 47) + ")d";
            due("299 in between", with(swells).work(0, how, 200), 5);
            leaves("301 in between", FULL, terms(swells + "d"), x -> x.work(0, how, 200), x -> x.work(0, how, 5));
            due("119 with no STEP", with(times("a", 60)).work(0, how, 200), 0);
        }
    }

    private static void drop() {
        begin("Promise 10: drop");
        holds("A SHELF is empty: SIZE it had.", () -> {
            for (int s = 0; s < 4; s++) {
                Press x = with("a", "bc", "def", "^x.x");
                int[] sizes = {1, 3, 5, 2};
                due("drop(" + s + ")", x.drop(s), sizes[s]);
                due("shelves", x.told(1), 15 & ~(1 << s));
                due("it is empty", x.of(s, 0), NOT);
                due("what can be undone", x.told(2), 5);
                due("undo()", x.undo(), 4);
                due("it is there again", x.of(s, 0), sizes[s]);
            }
            due("the largest", with("^x." + times("a", 60)).drop(0), 120);
        });
        holds("UNKNOWN", () -> leaves("drop", UNKNOWN, SOME, x -> x.drop(-1), x -> x.drop(4), x -> x.drop(LEAST),
            x -> x.drop(MOST)));
        holds("NOT", () -> {
            leaves("drop", NOT, SOME, x -> x.drop(3));
            leaves("drop again", NOT, then(SOME, x -> x.drop(0)), x -> x.drop(0));
        });
    }

    private static void drift() {
        begin("Promise 11: drift");
        holds("A TERM BY LOTS of n signs (1 .. 40), a SEED (1 .. 999999): SIZE.", () -> {
            due("the fewest", with().drift(0, 1, 1), 1);
            due("the most", with().drift(0, 40, 1), 79);
            due("the last SEED", with().drift(0, 40, 999999), 79);
            Press x = new Press();
            due("two of the last SEED", x.drift(3, 2, 999999), 3);
            due("the first of them", x.sign(3, 0), with999999(0));
            due("the second", x.sign(3, 1), with999999(1));
            due("its shelf", x.told(1), 8);
            for (int n = 1; n <= 40; n++) {
                due("SIZE of " + n, with().drift(2, n, 77), 2 * n - 1);
            }
            Press y = with("ab");
            due("instead of another", y.drift(0, 6, 1), 11);
            due("that", y.written(0), "I(BSICB)");
            due("undo()", y.undo(), 1);
            due("as it was", y.written(0), "ab");
        });
        holds("UNKNOWN", () -> {
            for (int s : NO_SHELVES) {
                leaves("drift " + s, UNKNOWN, SOME, x -> x.drift(s, 1, 1));
            }
        });
        holds("OUTSIDE", () -> leaves("drift", OUTSIDE, SOME, x -> x.drift(0, 0, 1), x -> x.drift(0, 41, 1),
            x -> x.drift(0, -1, 1), x -> x.drift(0, LEAST, 1), x -> x.drift(0, MOST, 1), x -> x.drift(0, 1, 0),
            x -> x.drift(0, 1, 1000000), x -> x.drift(0, 1, -1), x -> x.drift(0, 1, LEAST), x -> x.drift(0, 1, MOST),
            x -> x.drift(3, 0, 1), x -> x.drift(3, 1, 1000000)));
    }

    /** The signs of a TERM of two by the SEED 999999, in long numbers step by step. */
    private static int with999999(int i) {
        long first = 999999L * 16807 % 2147483647;
        long side = first * 16807 % 2147483647;
        long second = side * 16807 % 2147483647;
        char a = "IKSBC".charAt((int) (first % 5));
        char b = "IKSBC".charAt((int) (second % 5));
        return (i == 0) == (side % 2 == 0) ? a : b;
    }

    private static void undo() {
        begin("Promise 12: undo");
        holds("The latest is undone: how many more can be.", () -> {
            Press x = with("Ia", "^x.x");
            x.compile(1);
            x.takeOut(1, 'a');
            x.put(2, 0, 1);
            x.putIn(0, 'a', 2);
            x.work(0, 0, 200);
            x.drift(3, 1, 1);
            x.drop(3);
            String[] behind = {"a(KI),KI,Ia(KI),S", "a(KI),KI,Ia(KI),", "I(Ia(KI)),KI,Ia(KI),", "Ia,KI,Ia(KI),",
                "Ia,KI,,", "Ia,I,,", "Ia,^x.x,,", "Ia,,,", ",,,"};
            due("what can be undone", x.told(2), 9);
            for (int i = 0; i < behind.length; i++) {
                due("undo()", x.undo(), 8 - i);
                String now = x.written(0) + "," + x.written(1) + "," + x.written(2) + "," + x.written(3);
                due("behind undo " + i, now, behind[i]);
            }
        });
        holds("The latest is undone: how many more can be.", () -> {
            Press x = new Press();
            for (int i = 1; i <= 11; i++) {
                x.drift(0, i, 1);
            }
            due("ten of eleven", x.told(2), 10);
            for (int k = 9; k >= 0; k--) {
                due("undo()", x.undo(), k);
            }
            due("the oldest is lost", x.of(0, 0), 1);
            due("none", x.undo(), NOT);
            x.drop(0);
            due("a change behind that", x.undo(), 0);
            due("undone", x.of(0, 0), 1);
        });
        holds("NOT: none.", () -> {
            leaves("of a new object", NOT, x -> x.feed('a'), x -> x.undo());
            leaves("all is undone", NOT, then(SOME, x -> {
                x.undo();
                x.undo();
            }), x -> x.undo());
            leaves("behind keep", NOT, then(SOME, x -> x.keep(0)), x -> x.undo());
            leaves("behind goBack", NOT, then(SOME, x -> x.goBack(0)), x -> x.undo());
            leaves("behind a FAULT alone", NOT, x -> x.read(0, ")"), x -> x.undo());
        });
    }

    // ---- 13 to 16: told, of, sign, kind

    private static void told() {
        begin("Promise 13: told");
        holds("0 letters of THE TEXT,", () -> {
            Press x = new Press();
            due("at first", x.told(0), 0);
            for (int i = 1; i <= 240; i++) {
                x.feed('a');
                due("letters", x.told(0), i);
            }
            x.feed('a');
            due("the most", x.told(0), 240);
            x.term(0);
            due("behind term()", x.told(0), 0);
        });
        holds("1 SHELVES that have a TERM (bits),", () -> {
            for (int set = 0; set < 16; set++) {
                Press x = new Press();
                for (int s = 0; s < 4; s++) {
                    if ((set >> s & 1) == 1) {
                        x.drift(s, 1, 1);
                    }
                }
                due("told(1)", x.told(1), set);
            }
        });
        holds("2 how many can be undone.", () -> {
            Press x = new Press();
            for (int i = 0; i <= 12; i++) {
                due("told(2)", x.told(2), Math.min(i, 10));
                x.drift(0, 1, 1);
            }
            x.undo();
            due("behind undo()", x.told(2), 9);
            x.keep(0);
            due("behind keep()", x.told(2), 0);
            x.drop(0);
            x.goBack(0);
            due("behind goBack()", x.told(2), 0);
            x.read(0, ")");
            due("behind a FAULT", x.told(2), 0);
        });
        holds("OUTSIDE.", () -> leaves("told", OUTSIDE, SOME, x -> x.told(-1), x -> x.told(3), x -> x.told(LEAST),
            x -> x.told(MOST)));
    }

    private static void isOf(int what, String text, int want) {
        due("of(0, " + what + ") of " + text, with(text).of(0, what), want);
    }

    private static void of() {
        begin("Promise 14: of");
        holds("Of a TERM: what = 0 SIZE,", () -> {
            isOf(0, "a", 1);
            isOf(0, "^x.xa", 4);
            isOf(0, "^x." + times("a", 60), 120);
        });
        holds("1 FREE NAMES (a SET),", () -> {
            isOf(1, "a", 1);
            isOf(1, "z", 1 << 25);
            isOf(1, "^x.x", 0);
            isOf(1, "abcdefghijklmnopqrstuvwxyz", (1 << 26) - 1);
            isOf(1, "^a.abcdefghijklmnopqrstuvwxyz", (1 << 26) - 2);
        });
        holds("2 how many BINDERS,", () -> {
            isOf(2, "a", 0);
            isOf(2, "(^x.^y.a)(^x.a)", 3);
            isOf(2, times("^x.", 79) + "x", 79);
        });
        holds("3 to 7 SIGNS I, K, S, B, C (how often),", () -> {
            Press x = with("IKSBCIKSBIKSIKI", "a", times("C", 60));
            for (int what = 3; what <= 7; what++) {
                due("of(0, " + what + ")", x.of(0, what), 8 - what);
                due("of(1, " + what + ")", x.of(1, what), 0);
                due("of(2, " + what + ")", x.of(2, what), what == 7 ? 60 : 0);
                isOf(what, "IKSBC".substring(what - 3, what - 2), 1);
            }
        });
        holds("8 signs of it WRITTEN,", () -> {
            isOf(8, "a", 1);
            isOf(8, " ( a ) ( b c ) ", 5);
            isOf(8, "a^x.x", 7);
            isOf(8, times("^x.", 79) + "x", 238);
        });
        holds("9 how many are the longest row of TERMS within one another,", () -> {
            isOf(9, "a", 1);
            isOf(9, "ab", 2);
            isOf(9, "^x.a", 2);
            isOf(9, "abc", 3);
            isOf(9, "a(bc)", 3);
            isOf(9, "ab(cd)", 3);
            isOf(9, "a(^x.b)", 3);
            isOf(9, times("a", 60), 60);
            isOf(9, times("^x.", 79) + "x", 80);
        });
        holds("10 1 it has a KIND, 0 not,", () -> {
            isOf(10, "I", 1);
            isOf(10, "SII", 0);
            isOf(10, "a", 1);
            isOf(10, "aa", 0);
            isOf(10, LESS_WIDE, 1);
            isOf(10, WIDE, 1);
            isOf(10, "K(K(" + LONG + "))", 1);
        });
        holds("11 signs of that WRITTEN (NONE: no KIND).", () -> {
            isOf(11, "a", 1);
            isOf(11, "I", 3);
            isOf(11, "SII", NONE);
            isOf(11, LESS_WIDE, 53);
            isOf(11, "K(" + LONG + ")", 199);
        });
        holds("Of a TERM: what = 0 SIZE,", PromiseEdgeTests::nothingOfALongerTerm);
        holds("UNKNOWN,", () -> {
            for (int s : NO_SHELVES) {
                leaves("of " + s, UNKNOWN, SOME, x -> x.of(s, 0), x -> x.of(s, 11));
            }
        });
        holds("OUTSIDE,", () -> leaves("of", OUTSIDE, SOME, x -> x.of(0, -1), x -> x.of(0, 12), x -> x.of(0, LEAST),
            x -> x.of(0, MOST)));
        holds("NOT;", () -> {
            for (int what = 0; what <= 11; what++) {
                int asked = what;
                leaves("of(3, " + what + ")", NOT, SOME, x -> x.of(3, asked));
            }
        });
        holds("FULL (11).", () -> {
            leaves("27 letters", FULL, terms(WIDE), x -> x.of(0, 11));
            leaves("201 signs", FULL, terms("K(K(" + LONG + "))"), x -> x.of(0, 11));
            for (int what = 0; what <= 10; what++) {
                due("of(0, " + what + ") is not", with(WIDE).of(0, what) >= 0 ? 1 : 0, 1);
            }
        });
    }

    private static String inward(String sign) {
        return times(sign + "(", 59) + sign + times(")", 59);
    }

    /** What is told of a TERM is that of a new object's, whatever longer one stood on its shelf and however it came there. */
    private static void nothingOfALongerTerm() {
        String[] longer = {times("I", 60), times("K", 60), times("S", 60), times("B", 60), times("C", 60), times("a", 60),
            "^x." + times("x", 60), times("^x.", 79) + "x", inward("I"), inward("K"), inward("S"), inward("B"), inward("C"),
            inward("a")};
        Script[] shorter = {x -> x.read(0, "Kab"), x -> x.goBack(1), x -> x.put(0, 2, 3), x -> {
            x.drop(0);
            x.put(0, 2, 3);
        }};
        for (String text : longer) {
            for (Script comes : shorter) {
                Press alone = with("Kab");
                Press x = with("Kab", "a", "Ka", "b");
                x.keep(1);
                x.read(0, text);
                comes.on(x);
                for (int what = 0; what <= 11; what++) {
                    due("of(0, " + what + ") behind " + text, x.of(0, what), alone.of(0, what));
                }
                due("written behind " + text, x.written(0), "Kab");
                due("same behind " + text, x.put(1, 2, 3) * 10 + x.same(0, 1), 51);
            }
        }
    }

    private static void sign() {
        begin("Promise 15: sign");
        holds("Sign i of a TERM, WRITTEN;", () -> {
            String text = "a(^x.xK)(bc)";
            Press x = with(text);
            for (int i = 0; i < text.length(); i++) {
                due("sign(0, " + i + ")", x.sign(0, i), text.charAt(i));
            }
            // As long as a TERM gets, WRITTEN: SIZE 120 with one PUTS; an object of its own for each third.
            String whole = "(" + BINDERS_58 + ")(" + BINDERS_59 + ")";
            for (int start = 0; start < whole.length(); start += 119) {
                Press y = with(BINDERS_58, BINDERS_59);
                due("put", y.put(2, 0, 1), 120);
                due("signs", y.of(2, 8), 357);
                for (int i = start; i < start + 119; i++) {
                    due("sign(2, " + i + ")", y.sign(2, i), whole.charAt(i));
                }
            }
        });
        holds("NONE: not so many.", () -> {
            Press x = with("a", "a(bc)");
            due("the last", x.sign(0, 0), 'a');
            due("behind the last", x.sign(0, 1), NONE);
            due("the last", x.sign(1, 4), ')');
            due("behind the last", x.sign(1, 5), NONE);
            due("far behind", x.sign(1, MOST), NONE);
            Press y = with(BINDERS_58, BINDERS_59);
            y.put(0, 0, 1);
            due("the last of the longest", y.sign(0, 356), ')');
            due("behind that", y.sign(0, 357), NONE);
        });
        holds("UNKNOWN,", () -> {
            for (int s : NO_SHELVES) {
                leaves("sign " + s, UNKNOWN, SOME, x -> x.sign(s, 0));
            }
        });
        holds("OUTSIDE: below 0;", () -> leaves("sign", OUTSIDE, SOME, x -> x.sign(0, -1), x -> x.sign(0, LEAST)));
        holds("NOT.", () -> leaves("sign", NOT, SOME, x -> x.sign(3, 0), x -> x.sign(3, MOST)));
    }

    private static void kind() {
        begin("Promise 16: kind");
        holds("Sign i of its KIND, WRITTEN;", () -> {
            String want = "(a>b>c)>(a>b)>a>c";
            Press x = with("S");
            for (int i = 0; i < want.length(); i++) {
                due("kind(0, " + i + ")", x.kind(0, i), want.charAt(i));
            }
            due("26 letters", with(LESS_WIDE).kind(0, 50), 'z');
        });
        holds("NONE: not so many, no KIND.", () -> {
            Press x = with("x", "S", "SII", "K(" + LONG + ")");
            due("the last", x.kind(0, 0), 'a');
            due("behind the last", x.kind(0, 1), NONE);
            due("the last", x.kind(1, 16), 'c');
            due("behind the last", x.kind(1, 17), NONE);
            due("far behind", x.kind(1, MOST), NONE);
            due("no KIND", x.kind(2, 0), NONE);
            due("no KIND", x.kind(2, MOST), NONE);
            due("the last of 199", x.kind(3, 198) > 0 ? 1 : 0, 1);
            due("behind that", x.kind(3, 199), NONE);
        });
        holds("UNKNOWN,", () -> {
            for (int s : NO_SHELVES) {
                leaves("kind " + s, UNKNOWN, SOME, x -> x.kind(s, 0));
            }
        });
        holds("OUTSIDE: below 0;", () -> leaves("kind", OUTSIDE, SOME, x -> x.kind(0, -1), x -> x.kind(0, LEAST),
            x -> x.kind(2, -1)));
        holds("NOT,", () -> leaves("kind", NOT, SOME, x -> x.kind(3, 0), x -> x.kind(3, MOST)));
        holds("FULL.", () -> {
            leaves("27 letters", FULL, terms(WIDE), x -> x.kind(0, 0), x -> x.kind(0, 54), x -> x.kind(0, MOST));
            leaves("201 signs", FULL, terms("K(K(" + LONG + "))"), x -> x.kind(0, 0), x -> x.kind(0, 200),
                x -> x.kind(0, MOST));
        });
    }

    // ---- 17 to 19: steps, same, sameKind

    private static String wrapped(int n, String text) {
        return times("I(", n) + text + times(")", n);
    }

    /** Each S doubles what is behind it: 15 of S and 16 times 11 of I are 191; each I around is one more. */
    private static String plainly(int around) {
        return wrapped(around, times("Saa(", 4) + wrapped(11, "b") + times(")", 4));
    }

    /** Two to two is four, three to four is 81: as many I; 186 STEPS in all (the second program says so, too). */
    private static String shared(int around) {
        return wrapped(around, "SII(SBI)(SB(SBI))Ia");
    }

    /** 191 STEPS in the first, three and those of I in the second, and only the last makes it 301 PLAINLY. */
    private static String plainlyTooBig(int around, int z) {
        String first = times("Saa(", 5) + wrapped(5, "b") + times(")", 5);
        return "a(" + first + ")(" + wrapped(around, "S(Saa)(Saa)(c" + times("c", z - 1) + ")") + ")";
    }

    /** Behind 186 STEPS there is one that makes eight of z in seven more. */
    private static String sharedTooBig(int around, int z) {
        String eight = "(S(S(Saa)(Saa))(S(Saa)(Saa)))";
        return wrapped(around, "SII(SBI)(SB(SBI))I" + eight + "(b" + times("b", z - 1) + ")");
    }

    private static void inSteps(String text, int how, int want) {
        due("steps(0, " + how + ") of " + text, with(text).steps(0, how), want);
    }

    private static void steps() {
        begin("Promise 17: steps");
        holds("In how many STEPS (200 at most) a TERM is WORKED OUT, PLAINLY (how = 0), SHARED (1);", () -> {
            inSteps("a", 0, 0);
            inSteps("a", 1, 0);
            inSteps("Ia", 0, 1);
            inSteps("Ia", 1, 1);
            inSteps("SII(Ia)", 0, 5);
            inSteps("SII(Ia)", 1, 4);
            inSteps("SII(SII(Ka))", 0, 9);
            inSteps("SII(SII(Ka))", 1, 6);
            inSteps(plainly(0), 0, 191);
            inSteps(plainly(8), 0, 199);
            inSteps(plainly(9), 0, 200);
            inSteps(shared(0), 1, 186);
            inSteps(shared(13), 1, 199);
            inSteps(shared(14), 1, 200);
            Press last = new Press();
            last.read(3, "Ia");
            due("on the last shelf", last.steps(3, 0), 1);
        });
        holds("-2: not in so many;", () -> {
            inSteps(plainly(10), 0, -2);
            inSteps(plainly(11), 0, -2);
            inSteps(shared(15), 1, -2);
            inSteps(shared(0), 0, -2);
            inSteps("SII(SII)", 0, -2);
            inSteps("SII(SII)", 1, -2);
            inSteps("a(SII(SII))", 0, -2);
        });
        holds("-3: TOO BIG.", () -> {
            inSteps(GROWS, 0, -3);
            inSteps(GROWS, 1, -3);
            // 299 in the 200th STEP, 301 in it, 301 one STEP too late.
            inSteps(plainlyTooBig(6, 12), 0, 200);
            inSteps(plainlyTooBig(6, 13), 0, -3);
            inSteps(plainlyTooBig(7, 13), 0, -2);
            inSteps(sharedTooBig(7, 17), 1, 200);
            inSteps(sharedTooBig(7, 18), 1, -3);
            inSteps(sharedTooBig(8, 18), 1, -2);
            for (int how = 0; how <= 1; how++) {
                String swells = "S(S(KK)(Kc))r(z" + times("z", 47) + ")d";
                inSteps(swells, how, 5);
                inSteps(swells + "d", how, -3);
            }
        });
        holds("UNKNOWN,", () -> {
            for (int s : NO_SHELVES) {
                leaves("steps " + s, UNKNOWN, SOME, x -> x.steps(s, 0), x -> x.steps(s, 1));
            }
        });
        holds("OUTSIDE,", () -> {
            for (int how : NO_HOW) {
                leaves("steps how " + how, OUTSIDE, SOME, x -> x.steps(0, how));
            }
        });
        holds("NOT.", () -> leaves("steps", NOT, SOME, x -> x.steps(3, 0), x -> x.steps(3, 1), x -> x.steps(1, 0),
            x -> x.steps(1, 1)));
        holds("(Nothing changes.)", () -> {
            for (int h = 0; h <= 1; h++) {
                int how = h;
                leaves("done", 1, SOME, x -> x.steps(0, how));
                leaves("not in so many", -2, terms("SII(SII)"), x -> x.steps(0, how));
                leaves("TOO BIG", -3, terms(GROWS), x -> x.steps(0, how));
            }
        });
    }

    private static void same() {
        begin("Promise 18: same");
        holds("Whether two TERMS are the same, NAMES of BINDERS, too (1, 0).", () -> {
            String[] terms = {"a", "b", "I", "ab", "abc", "a(bc)", "^x.x", "^y.y", "^x.y", "(^x.x)y", "^x.xy", "^x.^y.x"};
            for (int i = 0; i < terms.length; i++) {
                for (int j = 0; j < terms.length; j++) {
                    due("same of " + terms[i] + ", " + terms[j], with(terms[i], terms[j]).same(0, 1), i == j ? 1 : 0);
                }
            }
            due("itself", with("^x.x").same(0, 0), 1);
            due("told in another way", with("(a)(b(c))", " a (b c)").same(0, 1), 1);
            due("made in another way", with("Ia", "a").same(0, 1), 0);
            Press x = with("Ia", "a");
            x.work(0, 0, 1);
            due("worked out", x.same(0, 1), 1);
            String most = "^x." + times("a", 59);
            due("the largest", with(most + "a", most + "a").same(0, 1), 1);
            due("the largest, but for the last", with(most + "a", most + "b").same(0, 1), 0);
            leaves("nothing changes", 0, SOME, y -> y.same(0, 1), y -> y.same(1, 2));
        });
        holds("UNKNOWN,", () -> {
            for (int s : NO_SHELVES) {
                leaves("same " + s, UNKNOWN, SOME, x -> x.same(s, 0), x -> x.same(0, s), x -> x.same(s, s));
            }
        });
        holds("NOT.", () -> leaves("same", NOT, SOME, x -> x.same(3, 0), x -> x.same(0, 3), x -> x.same(3, 3)));
    }

    private static void sameKind() {
        begin("Promise 19: sameKind");
        holds("Whether two TERMS have the same MOST GENERAL KIND (1, 0; none and none: 1).", () -> {
            due("other unknown ones", with("^x.x", "SKK").sameKind(0, 1), 1);
            due("a, a", with("x", "yz").sameKind(0, 1), 1);
            due("a>a, a>b", with("^x.x", "^x.y").sameKind(0, 1), 0);
            due("a>b, a>a", with("^x.y", "^x.x").sameKind(0, 1), 0);
            due("a, a>a", with("x", "I").sameKind(0, 1), 0);
            due("a>b>a, a>b>b", with("K", "KI").sameKind(0, 1), 0);
            due("itself", with("S").sameKind(0, 0), 1);
            due("compiled", with("^x.^y.^z.x(yz)", "B").sameKind(0, 1), 1);
            due("some and none", with("I", "SII").sameKind(0, 1), 0);
            due("none and some", with("SII", "I").sameKind(0, 1), 0);
            due("none and none", with("SII", "^x.xx").sameKind(0, 1), 1);
            due("none and itself", with("xx").sameKind(0, 0), 1);
            due("26 letters", with(LESS_WIDE, "I(" + LESS_WIDE + ")").sameKind(0, 1), 1);
            due("199 signs", with("K(" + LONG + ")", "I(K(" + LONG + "))").sameKind(0, 1), 1);
            leaves("nothing changes", 0, SOME, x -> x.sameKind(0, 1), x -> x.sameKind(1, 2));
        });
        holds("UNKNOWN,", () -> {
            for (int s : NO_SHELVES) {
                leaves("sameKind " + s, UNKNOWN, SOME, x -> x.sameKind(s, 0), x -> x.sameKind(0, s), x -> x.sameKind(s, s));
            }
        });
        holds("NOT,", () -> leaves("sameKind", NOT, SOME, x -> x.sameKind(3, 0), x -> x.sameKind(0, 3),
            x -> x.sameKind(3, 3)));
        holds("FULL.", () -> {
            leaves("27 letters", FULL, terms(WIDE, "I", "SII"), x -> x.sameKind(0, 0), x -> x.sameKind(0, 1),
                x -> x.sameKind(1, 0), x -> x.sameKind(0, 2), x -> x.sameKind(2, 0));
            leaves("201 signs", FULL, terms("K(K(" + LONG + "))", "I"), x -> x.sameKind(0, 0), x -> x.sameKind(0, 1),
                x -> x.sameKind(1, 0));
        });
    }

    // ---- 20, 21: images

    private static String shelves(Press x) {
        return x.written(0) + "," + x.written(1) + "," + x.written(2) + "," + x.written(3);
    }

    private static void keep() {
        begin("Promise 20: keep");
        holds("IMAGE i keeps all SHELVES (nothing can be undone then): 1.", () -> {
            for (int i = 0; i < 2; i++) {
                Press x = made(SOME);
                due("what can be undone", x.told(2), 2);
                due("keep(" + i + ")", x.keep(i), 1);
                due("then", x.told(2), 0);
                due("undo()", x.undo(), NOT);
                due("the shelves stay", shelves(x), "Iab,^x.x,SII,");
                due("the text stays", x.told(0), 2);
                due("the FAULT stays", x.fault(), 1);
                for (int s = 0; s < 4; s++) {
                    x.drift(s, 3, 3);
                }
                x.goBack(i);
                due("all shelves are kept, an empty one too", shelves(x), "Iab,^x.x,SII,");
                x.goBack(1 - i);
                due("the other one stays", shelves(x), i == 0 ? "Ka,^x.x,," : "xy,,,");
                due("kept anew", x.keep(i), 1);
                x.drop(0);
                x.goBack(i);
                due("that is the one kept last", shelves(x), i == 0 ? "Ka,^x.x,," : "xy,,,");
            }
            due("of a new object", with().keep(0), 1);
            Press x = with("a", "b", "c", "d");
            x.keep(1);
            for (int s = 0; s < 4; s++) {
                x.drop(s);
            }
            x.keep(0);
            x.goBack(1);
            due("four that have a TERM", shelves(x), "a,b,c,d");
            x.goBack(0);
            due("four that are empty", x.told(1), 0);
            Press y = with(times("a", 60));
            y.keep(0);
            y.drop(0);
            due("changes behind it can be undone", y.told(2), 1);
        });
        holds("UNKNOWN.", () -> leaves("keep", UNKNOWN, SOME, x -> x.keep(-1), x -> x.keep(2), x -> x.keep(LEAST),
            x -> x.keep(MOST)));
    }

    private static void goBack() {
        begin("Promise 21: goBack");
        holds("They are as it kept them (nothing can be undone then): 1.", () -> {
            for (int i = 0; i < 2; i++) {
                Press x = made(SOME);
                due("goBack(" + i + ")", x.goBack(i), 1);
                due("the shelves", shelves(x), i == 0 ? "xy,,," : "Ka,^x.x,,");
                due("what can be undone", x.told(2), 0);
                due("undo()", x.undo(), NOT);
                due("the text stays", x.told(0), 2);
                due("the FAULT stays", x.fault(), 1);
                x.drop(0);
                due("changes behind it can be undone", x.undo(), 0);
                due("undone", x.of(0, 0), 3);
                x.takeOut(0, 'a');
                due("goBack(" + i + ") again", x.goBack(i), 1);
                due("the IMAGE is as it was", shelves(x), i == 0 ? "xy,,," : "Ka,^x.x,,");
            }
            Press y = with("^x." + times("a", 60));
            y.keep(0);
            y.drop(0);
            y.goBack(0);
            due("the largest", y.written(0), "^x." + times("a", 60));
        });
        holds("UNKNOWN,", () -> leaves("goBack", UNKNOWN, SOME, x -> x.goBack(-1), x -> x.goBack(2), x -> x.goBack(LEAST),
            x -> x.goBack(MOST)));
        holds("NOT: it was not kept.", () -> {
            leaves("none was kept", NOT, terms("ab"), x -> x.goBack(0), x -> x.goBack(1));
            leaves("only 0 was", NOT, then(terms("ab"), x -> x.keep(0)), x -> x.goBack(1));
            leaves("only 1 was", NOT, then(terms("ab"), x -> x.keep(1)), x -> x.goBack(0));
            Press x = with("ab");
            x.keep(1);
            due("the one that was", x.goBack(1), 1);
            due("the other one still", x.goBack(0), NOT);
        });
    }

    public static void main(String[] args) {
        whatItIs();
        newObject();
        feed();
        term();
        fault();
        compile();
        takeOut();
        put();
        putIn();
        work();
        drop();
        drift();
        undo();
        told();
        of();
        sign();
        kind();
        steps();
        same();
        sameKind();
        keep();
        goBack();
        end();
    }
}
