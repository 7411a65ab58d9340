/** For each promise of the document its ordinary inputs, the edges that it names, and wrong inputs. */
public final class PromiseTests {
    private static final int NONE = -1, UNKNOWN = -1000000001, OUTSIDE = -1000000002, NOT = -1000000003, FULL = -1000000004;
    private static final int FAULT_1 = -11, FAULT_2 = -12;
    private static final int[] NO_SHELVES = {-1, 4, Integer.MIN_VALUE, Integer.MAX_VALUE};
    private static final int[] NO_IMAGES = {-1, 2, Integer.MIN_VALUE, Integer.MAX_VALUE};
    private static final int[] NO_NAMES = {96, 123, 0, -1, 65, 255, Integer.MIN_VALUE, Integer.MAX_VALUE};

    private static int wrong = 0;
    private static int looked = 0;

    private static void due(String what, int got, int want) {
        looked++;
        if (got != want) {
            wrong++;
            System.out.println(what + " answered " + got + ", due is " + want);
        }
    }

    private static void due(String what, String got, String want) {
        looked++;
        if (!got.equals(want)) {
            wrong++;
            System.out.println(what + " is " + got + ", due is " + want);
        }
    }

    // ---- what the tests share

    private static String times(String part, int n) {
        return part.repeat(n);
    }

    /** A new object with a TERM on each of the first shelves. */
    private static Press with(String... texts) {
        Press x = new Press();
        for (int s = 0; s < texts.length; s++) {
            if (x.read(s, texts[s]) < 0) {
                wrong++;
                System.out.println("the test's own text " + texts[s] + " has a FAULT at " + x.fault());
            }
        }
        return x;
    }

    // ---- the promises

    private static void promise1NewObject() {
        Press x = new Press();
        for (int what = 0; what <= 2; what++) {
            due("new told(" + what + ")", x.told(what), 0);
        }
        due("new fault()", x.fault(), NONE);
        for (int s = 0; s < 4; s++) {
            due("new of(" + s + ", 0)", x.of(s, 0), NOT);
        }
        due("new undo()", x.undo(), NOT);
        due("new goBack(0)", x.goBack(0), NOT);
        due("new goBack(1)", x.goBack(1), NOT);
    }

    private static void promise2Feed() {
        Press x = new Press();
        due("feed(0)", x.feed(0), 1);
        due("feed(255)", x.feed(255), 2);
        due("feed(-1)", x.feed(-1), OUTSIDE);
        due("feed(256)", x.feed(256), OUTSIDE);
        due("feed least", x.feed(Integer.MIN_VALUE), OUTSIDE);
        due("feed most", x.feed(Integer.MAX_VALUE), OUTSIDE);
        due("told(0)", x.told(0), 2);
        for (int i = 3; i <= 240; i++) {
            due("feed " + i, x.feed('a'), i);
        }
        due("feed 241", x.feed('a'), FULL);
        due("feed(256) when full", x.feed(256), OUTSIDE);
        due("told(0) when full", x.told(0), 240);
        due("term of that", x.term(0), FAULT_1);
        due("feed anew", x.feed('a'), 1);
    }

    private static void reads(String text, int size, String want) {
        Press x = new Press();
        due("term of " + text, x.read(0, text), size);
        due(text + " WRITTEN", x.written(0), want);
        due("fault() of " + text, x.fault(), NONE);
    }

    private static void fails(String text, int answer, int place) {
        Press x = with("abc");
        due("term of " + text, x.read(0, text), answer);
        due("fault() of " + text, x.fault(), place);
        due("the shelf behind " + text, x.written(0), "abc");
        due("the text behind " + text, x.told(0), 0);
        due("what can be undone behind " + text, x.told(2), 1);
    }

    private static void promise3Term() {
        reads("a", 1, "a");
        reads("z", 1, "z");
        reads("IKSBC", 9, "IKSBC");
        reads("abc", 5, "abc");
        reads("(ab)c", 5, "abc");
        reads("a(bc)", 5, "a(bc)");
        reads("((a))((b))", 3, "ab");
        reads("^x.xy", 4, "^x.xy");
        reads("^x.x^y.yx", 7, "^x.x(^y.yx)");
        reads("(^x.x)y", 4, "(^x.x)y");
        reads("a^x.xb", 6, "a(^x.xb)");
        reads("(a^x.xb)c", 8, "a(^x.xb)c");
        reads("(^x.^y.a)b", 5, "(^x.^y.a)b");
        reads("^x.(^y.a)b", 5, "^x.(^y.a)b");
        reads(" ^ x . x ( a ) ", 4, "^x.xa");
        reads("^x.^x.x", 3, "^x.^x.x");
        reads(times("(", 119) + "ab" + times(")", 119), 3, "ab");
        reads(times("^x.", 79) + "x", 80, times("^x.", 79) + "x");
        reads(times("a", 60), 119, times("a", 60));
        reads("^x." + times("a", 60), 120, "^x." + times("a", 60));

        Press x = new Press();
        x.read(0, "a)");
        x.feed('b');
        for (int s : NO_SHELVES) {
            due("term(" + s + ")", x.term(s), UNKNOWN);
        }
        due("the text stays", x.told(0), 1);
        due("the FAULT stays", x.fault(), 1);
        for (int s = 0; s < 4; s++) {
            due("term(" + s + ")", x.read(s, s == 0 ? "" : "b"), 1);
        }
        due("all shelves", x.told(1), 15);
    }

    private static void promise4Fault() {
        fails("", FAULT_1, 0);
        fails("   ", FAULT_1, 3);
        fails(")", FAULT_1, 0);
        fails("a)", FAULT_1, 1);
        fails("(a))", FAULT_1, 3);
        fails("()", FAULT_1, 1);
        fails("a()", FAULT_1, 2);
        fails("(a", FAULT_1, 2);
        fails("((a)", FAULT_1, 4);
        fails("^", FAULT_1, 1);
        fails("^x", FAULT_1, 2);
        fails("^x.", FAULT_1, 3);
        fails("^x. ", FAULT_1, 4);
        fails("(^x.)", FAULT_1, 4);
        fails("(^x.a", FAULT_1, 5);
        fails("^x.a)", FAULT_1, 4);
        fails("^^x.a", FAULT_1, 1);
        fails("^K.a", FAULT_1, 1);
        fails("^xy.a", FAULT_1, 2);
        fails("^x x", FAULT_1, 3);
        fails("(^)", FAULT_1, 2);
        fails("a.b", FAULT_1, 1);
        fails("aD", FAULT_1, 1);
        fails("A", FAULT_1, 0);
        fails("a\u0000", FAULT_1, 1);
        fails("a\u00e4", FAULT_1, 1);
        fails("a\tb", FAULT_1, 1);
        fails("a{", FAULT_1, 1);
        fails("a`", FAULT_1, 1);
        fails(times("(", 240), FAULT_1, 240);

        String full = "^x." + times("a", 60);
        fails(times("a", 61), FAULT_2, 60);
        fails(full + "a", FAULT_2, 63);
        fails(full + "  I", FAULT_2, 65);
        fails(full + "(", FAULT_2, 63);
        fails(full + "^", FAULT_2, 63);
        fails(full + ")", FAULT_1, 63);
        fails(full + ".", FAULT_1, 63);
        fails(full + "D", FAULT_1, 63);
        fails("(" + full, FAULT_1, 64);
        fails(times("a", 60) + "(a)", FAULT_2, 61);
        fails(times("a", 60) + "()", FAULT_1, 61);
        fails(times("a", 60) + "(^x.a)", FAULT_2, 61);
        fails("^x.^x." + times("a", 59) + "(^", FAULT_2, 66);
        fails(times("a", 61) + ")", FAULT_2, 60);
        fails("D" + times("a", 61), FAULT_1, 0);

        Press again = new Press();
        again.read(0, times("(", 240));
        again.read(0, times("^x.(", 60));
        due("behind texts with much open", again.read(0, "(^x.a(b))c"), 6);
        due("that", again.written(0), "(^x.ab)c");

        Press x = with("a");
        due("fault() behind none", x.fault(), NONE);
        x.read(1, "aa)");
        due("fault()", x.fault(), 2);
        due("fault() again", x.fault(), 2);
        x.compile(0);
        x.term(9);
        due("fault() behind other calls", x.fault(), 2);
        x.read(1, "b");
        due("fault() behind a good text", x.fault(), NONE);
    }

    private static void compiles(String text, String want) {
        Press x = with(text);
        int size = x.compile(0);
        due(text + " COMPILED", x.written(0), want);
        due("compile of " + text, size, x.of(0, 0));
        due("BINDERS left in " + text, x.of(0, 2), 0);
        due("what can be undone behind compile", x.told(2), 2);
        x.undo();
        due("compile of " + text + " undone", x.of(0, 2) > 0 ? 1 : 0, text.indexOf('^') >= 0 ? 1 : 0);
    }

    private static void promise5Compile() {
        compiles("^x.x", "I");
        compiles("^x.y", "Ky");
        compiles("^x.yz", "K(yz)");
        compiles("^x.yx", "y");
        compiles("^x.xx", "SII");
        compiles("^x.xy", "CIy");
        compiles("^x.yxx", "SyI");
        compiles("^x.y(xz)", "By(CIz)");
        compiles("^x.y(zx)", "Byz");
        compiles("^x.yxz", "Cyz");
        compiles("^x.yx(zx)", "Syz");
        compiles("^x.^y.x", "K");
        compiles("^x.^y.y", "KI");
        compiles("^x.^x.x", "KI");
        compiles("^x.x(^x.x)", "CII");
        compiles("^f.^x.f(fx)", "SBI");
        compiles("^x.^y.^z.xz(yz)", "S");
        compiles("^x.^y.^z.x(yz)", "B");
        compiles("^x.^y.^z.xzy", "C");
        compiles("(^x.x)(^y.z)", "I(Kz)");
        compiles("a(bI)", "a(bI)");
        // In between it has size 123, in the end 117.
        due("compile that gets large and small", with("^a.^b.^c.(^x.x" + times("K", 29) + ")abc").compile(0), 117);
        Press x = with("^a.^b.^c.(^x.x" + times("K", 30) + ")abc");
        due("compile to 121", x.compile(0), FULL);
        due("it is as it was", x.of(0, 2), 4);
        due("nothing more can be undone", x.told(2), 1);
        due("compile far above", with(times("^a.^b.^c.^d.^e.", 3) + times("(abcde)", 9)).compile(0), FULL);
        for (int s : NO_SHELVES) {
            due("compile(" + s + ")", x.compile(s), UNKNOWN);
        }
        due("compile of none", x.compile(1), NOT);
    }

    private static void takesOut(String text, char name, String want) {
        Press x = with(text);
        int size = x.takeOut(0, name);
        due(name + " TAKEN OUT of " + text, x.written(0), want);
        due("takeOut of " + text, size, x.of(0, 0));
    }

    private static void promise6TakeOut() {
        takesOut("x", 'x', "I");
        takesOut("x", 'y', "Kx");
        takesOut("ax", 'x', "a");
        takesOut("az", 'z', "a");
        takesOut("ab", 'a', "CIb");
        takesOut("a(bx)", 'x', "Bab");
        takesOut("xx", 'x', "SII");
        takesOut("I", 'a', "KI");
        takesOut("^y.xy", 'x', "I");
        takesOut("^y.yx", 'x', "CI");
        takesOut("^x.x", 'x', "KI");
        takesOut("x(^x.x)", 'x', "CII");

        Press x = with(times("a", 60), times("a", 59));
        due("takeOut to 121", x.takeOut(0, 'b'), FULL);
        due("it is as it was", x.of(0, 0), 119);
        due("takeOut to 119", x.takeOut(1, 'b'), 119);
        // COMPILED it has size 121, and the NAME goes with two.
        due("takeOut of what is 121 in between", with("(^x.x" + times("K", 28) + "(KK))y").takeOut(0, 'y'), 119);
        for (int s : NO_SHELVES) {
            due("takeOut(" + s + ", 0)", x.takeOut(s, 0), UNKNOWN);
        }
        for (int name : NO_NAMES) {
            due("takeOut(0, " + name + ")", x.takeOut(0, name), OUTSIDE);
            due("takeOut(3, " + name + ")", x.takeOut(3, name), OUTSIDE);
        }
        due("takeOut of none", x.takeOut(3, 'a'), NOT);
        due("nothing was done", x.told(2), 3);
    }

    private static void promise7Put() {
        Press x = with("ab", "^x.x");
        due("put(2, 0, 1)", x.put(2, 0, 1), 6);
        due("that", x.written(2), "ab(^x.x)");
        due("put(3, 1, 0)", x.put(3, 1, 0), 6);
        due("that", x.written(3), "(^x.x)(ab)");
        due("put(0, 0, 0)", x.put(0, 0, 0), 7);
        due("that", x.written(0), "ab(ab)");
        due("put(0, 1, 0)", x.put(0, 1, 0), 10);
        due("that", x.written(0), "(^x.x)(ab(ab))");
        for (int s : NO_SHELVES) {
            due("put(s)", x.put(s, 0, 0), UNKNOWN);
            due("put(m)", x.put(0, s, 0), UNKNOWN);
            due("put(n)", x.put(0, 0, s), UNKNOWN);
        }
        x.drop(3);
        due("put m empty", x.put(0, 3, 0), NOT);
        due("put n empty", x.put(0, 0, 3), NOT);
        due("put UNKNOWN ahead of NOT", x.put(0, 3, 4), UNKNOWN);
        due("put on an empty shelf", x.put(3, 1, 1), 5);

        Press y = with("^x." + times("a", 30), times("b", 30), "^x.^y." + times("a", 30));
        due("put to 120", y.put(3, 0, 1), 120);
        due("put to 121", y.put(3, 2, 1), FULL);
        due("it stays", y.of(3, 0), 120);
        due("nothing was done", y.told(2), 4);
    }

    private static void promise8PutIn() {
        Press x = with("axa", "bc", "^x.x");
        due("putIn", x.putIn(0, 'x', 1), 7);
        due("that", x.written(0), "a(bc)a");
        due("putIn itself", x.putIn(0, 'a', 0), 19);
        due("that", x.written(0), "a(bc)a(bc)(a(bc)a)");
        due("putIn of a NAME that is not there", x.putIn(0, 'z', 1), 19);
        due("that can be undone, too", x.undo(), 5);
        due("putIn s has BINDERS", x.putIn(2, 'x', 1), NOT);
        due("putIn n has BINDERS", x.putIn(1, 'b', 2), NOT);
        due("putIn s empty", x.putIn(3, 'b', 1), NOT);
        due("putIn n empty", x.putIn(1, 'b', 3), NOT);
        for (int s : NO_SHELVES) {
            due("putIn s", x.putIn(s, 0, 1), UNKNOWN);
            due("putIn n", x.putIn(1, 0, s), UNKNOWN);
        }
        for (int name : NO_NAMES) {
            due("putIn(1, " + name + ")", x.putIn(1, name, 1), OUTSIDE);
            due("putIn(3, " + name + ")", x.putIn(3, name, 2), OUTSIDE);
        }
        due("nothing was done", x.told(2), 5);

        Press y = with(times("a", 15), times("b", 4), times("b", 5), times("a", 60));
        due("putIn to 121 by one", y.putIn(3, 'a', 1), FULL);
        due("putIn to 119", y.putIn(0, 'a', 1), 15 * 7 + 14);
        y.undo();
        due("putIn to 149", y.putIn(0, 'a', 2), FULL);
        due("far above", y.putIn(3, 'a', 3), FULL);
        due("it stays", y.of(3, 0), 119);
    }

    private static void works(String text, int how, int most, int done, String want) {
        Press x = with(text);
        due("work(" + how + ", " + most + ") of " + text, x.work(0, how, most), done);
        due(text + " WORKED OUT (" + how + ", " + most + ")", x.written(0), want);
    }

    private static void promise9Work() {
        for (int how = 0; how <= 1; how++) {
            works("x", how, 200, 0, "x");
            works("Ix", how, 200, 1, "x");
            works("I(ab)c", how, 200, 1, "abc");
            works("Kxy", how, 200, 1, "x");
            works("Kxyz", how, 200, 1, "xz");
            works("Sxyz", how, 200, 1, "xz(yz)");
            works("Sxyzw", how, 200, 1, "xz(yz)w");
            works("Bxyz", how, 200, 1, "x(yz)");
            works("Bxyzw", how, 200, 1, "x(yz)w");
            works("Cxyz", how, 200, 1, "xzy");
            works("Cxyzw", how, 200, 1, "xzyw");
            works("I", how, 200, 0, "I");
            works("Kx", how, 200, 0, "Kx");
            works("Sxy", how, 200, 0, "Sxy");
            works("Bxy", how, 200, 0, "Bxy");
            works("Cxy", how, 200, 0, "Cxy");
            works("S(Ia)(Ib)", how, 200, 2, "Sab");
            works("S(Ia)(Ib)", how, 1, 1, "Sa(Ib)");
            works("a(Ib)(Ic)", how, 1, 1, "ab(Ic)");
            works("a(b(Ic)(Id))(Ie)", how, 2, 2, "a(bcd)(Ie)");
            works("Ka(SII(SII))", how, 200, 1, "a");
            works("K(Ia)(Ib)", how, 1, 1, "Ia");
            works("K(Ia)(Ib)", how, 200, 2, "a");
            works("a(K(Ib)(Ic))", how, 1, 1, "a(Ib)");
            works("Ix", how, 0, 0, "Ix");
            works("SII(SII)", how, 3, 3, "I(I(SII))(I(I(SII)))");
        }
        works("SII(Ia)", 0, 3, 3, "a(I(Ia))");
        works("SII(Ia)", 0, 200, 5, "aa");
        works("SII(Ia)", 1, 1, 1, "I(Ia)(I(Ia))");
        works("SII(Ia)", 1, 2, 2, "Ia(I(Ia))");
        works("SII(Ia)", 1, 3, 3, "a(Ia)");
        works("SII(Ia)", 1, 200, 4, "aa");
        // x(ab) stands once behind K, and the same thing stands in both places behind that.
        works("Sbb(K(Ia)c)", 1, 1, 1, "b(K(Ia)c)(b(K(Ia)c))");
        works("Sbb(K(Ia)c)", 1, 2, 2, "b(Ia)(b(Ia))");
        works("Sbb(K(Ia)c)", 1, 3, 3, "ba(ba)");
        works("Sbb(K(Ia)c)", 0, 200, 5, "ba(ba)");
        // What stands twice because it was told twice is not one thing.
        works("a(Ib)(Ib)", 1, 1, 1, "ab(Ib)");
        Press x = with("SII(Ia)", "Sbb(K(Ia)c)", "Cxyz");
        due("one behind the other", x.work(0, 1, 200), 4);
        due("one behind the other", x.work(1, 1, 200), 3);
        due("one behind the other", x.work(2, 1, 200), 1);
        due("that", x.written(0) + x.written(1) + x.written(2), "aaba(ba)xzy");
        workRefusals();
    }

    private static void workRefusals() {
        Press x = with("Ia", "^x.x", "SSS(SSS)(SSS)");
        for (int s : NO_SHELVES) {
            due("work(" + s + ")", x.work(s, 9, 999), UNKNOWN);
        }
        int[] noHow = {-1, 2, Integer.MIN_VALUE, Integer.MAX_VALUE};
        for (int how : noHow) {
            due("work how " + how, x.work(0, how, 1), OUTSIDE);
            due("work how " + how + " of none", x.work(3, how, 1), OUTSIDE);
        }
        int[] noSteps = {-1, 201, Integer.MIN_VALUE, Integer.MAX_VALUE};
        for (int n : noSteps) {
            due("work n " + n, x.work(0, 0, n), OUTSIDE);
            due("work n " + n + " of BINDERS", x.work(1, 0, n), OUTSIDE);
        }
        due("work of none", x.work(3, 0, 1), NOT);
        due("work with BINDERS", x.work(1, 0, 0), NOT);
        due("work TOO BIG", x.work(2, 0, 200), FULL);
        due("work TOO BIG", x.work(2, 1, 200), FULL);
        due("it stays", x.of(2, 0), 17);
        due("nothing was done", x.told(2), 3);
        due("work of 0 STEPS", x.work(2, 0, 0), 0);
        due("that can be undone, too", x.told(2), 4);

        // K K z (I z), then K (I z), then K z: z has SIZE 109.
        String large = "(a" + times("b", 54) + ")";
        Press y = with("S(KK)I" + large, "SII" + large);
        due("work that is above 120 in between", y.work(0, 0, 1), FULL);
        due("work that is above 120 in between", y.work(0, 0, 200), 3);
        due("that", y.of(0, 0), 111);
        due("work above 120 in the end", y.work(1, 0, 200), FULL);
        due("work above 120 in the end", y.work(1, 1, 200), FULL);
        due("it stays", y.of(1, 0), 115);
    }

    private static void promise10Drop() {
        Press x = with("abc", "^x.x");
        due("drop(0)", x.drop(0), 5);
        due("it is empty", x.of(0, 0), NOT);
        due("drop(0) again", x.drop(0), NOT);
        due("the other one is not", x.told(1), 2);
        due("it can be undone", x.undo(), 2);
        due("it is there again", x.written(0), "abc");
        for (int s : NO_SHELVES) {
            due("drop(" + s + ")", x.drop(s), UNKNOWN);
        }
        due("drop(3)", x.drop(3), NOT);
        due("nothing was done", x.told(2), 2);
    }

    private static void drifts(int n, int seed, String want) {
        Press x = new Press();
        due("drift of " + n, x.drift(1, n, seed), 2 * n - 1);
        due("that", x.written(1), want);
        due("its shelf", x.told(1), 2);
    }

    private static void promise11Drift() {
        // From 1: 16807, 282475249, 1622650073, 984943658, 1144108930, 470211272, 101027544, 1457850878,
        // 1458777923, 2007237709, 823564440.
        drifts(1, 1, "S");
        drifts(2, 1, "BS");
        drifts(3, 1, "BSI");
        drifts(4, 1, "BSIC");
        drifts(5, 1, "BSICB");
        drifts(6, 1, "I(BSICB)");
        Press x = new Press();
        due("drift of 40", x.drift(0, 40, 999999), 79);
        due("drift on another", x.drift(0, 6, 1), 11);
        due("that", x.written(0), "I(BSICB)");
        due("undo()", x.undo(), 1);
        due("its SIGNS", x.of(0, 3) + x.of(0, 4) + x.of(0, 5) + x.of(0, 6) + x.of(0, 7), 40);
        int[] noMany = {0, 41, -1, Integer.MIN_VALUE, Integer.MAX_VALUE};
        for (int n : noMany) {
            due("drift n " + n, x.drift(0, n, 1), OUTSIDE);
        }
        int[] noSeed = {0, 1000000, -1, Integer.MIN_VALUE, Integer.MAX_VALUE};
        for (int seed : noSeed) {
            due("drift seed " + seed, x.drift(0, 1, seed), OUTSIDE);
        }
        for (int s : NO_SHELVES) {
            due("drift(" + s + ")", x.drift(s, 0, 0), UNKNOWN);
        }
        due("nothing was done", x.told(2), 1);
    }

    private static void promise12Undo() {
        Press x = new Press();
        for (int i = 0; i < 13; i++) {
            x.read(i % 2, times("a", i + 1));
        }
        due("ten are kept", x.told(2), 10);
        x.feed('b');
        for (int i = 9; i >= 0; i--) {
            due("undo()", x.undo(), i);
            due("the SIZE it had", x.of(i % 2 == 0 ? 1 : 0, 0), 2 * (i + 2) - 1);
        }
        due("undo() of none", x.undo(), NOT);
        due("the oldest are lost", x.of(0, 0), 5);
        due("the text is as it was", x.told(0), 1);

        Press y = with("Ia");
        y.work(0, 0, 200);
        y.put(2, 0, 0);
        y.putIn(2, 'a', 2);
        y.takeOut(2, 'a');
        y.compile(2);
        y.drift(3, 1, 1);
        y.drop(0);
        due("all changes can be undone", y.told(2), 8);
        int[] shelves = {13, 5, 5, 5, 5, 1, 1, 0};
        for (int i = 0; i < shelves.length; i++) {
            due("undo()", y.undo(), 7 - i);
            due("shelves behind undo " + i, y.told(1), shelves[i]);
        }
        y.read(0, "Ia");
        y.work(0, 0, 1);
        y.undo();
        due("a STEP is undone", y.written(0), "Ia");
        y.drop(0);
        due("behind an undo() changes are kept on", y.told(2), 2);
        y.undo();
        due("a shelf has its TERM again", y.told(1), 1);
    }

    private static void promise13Told() {
        Press x = with("a", "b");
        x.feed('c');
        due("told(0)", x.told(0), 1);
        due("told(1)", x.told(1), 3);
        due("told(2)", x.told(2), 2);
        x.drift(3, 1, 1);
        x.drop(0);
        due("told(1)", x.told(1), 10);
        due("told(2)", x.told(2), 4);
        int[] no = {-1, 3, Integer.MIN_VALUE, Integer.MAX_VALUE};
        for (int what : no) {
            due("told(" + what + ")", x.told(what), OUTSIDE);
        }
    }

    private static void isOf(String text, int... want) {
        Press x = with(text);
        for (int what = 0; what < want.length; what++) {
            due("of(0, " + what + ") of " + text, x.of(0, what), want[what]);
        }
    }

    private static void promise14Of() {
        isOf("a", 1, 1, 0, 0, 0, 0, 0, 0, 1, 1, 1, 1);
        isOf("z", 1, 1 << 25, 0, 0, 0, 0, 0, 0, 1, 1, 1, 1);
        isOf("^x.y", 2, 1 << 24, 1, 0, 0, 0, 0, 0, 4, 2, 1, 3);
        isOf("x(^x.x)", 4, 1 << 23, 1, 0, 0, 0, 0, 0, 7, 3, 1, 1);
        isOf("(^x.x)x", 4, 1 << 23, 1, 0, 0, 0, 0, 0, 7, 3, 1, 1);
        isOf("^x.^y.x(^x.xyz)", 10, 1 << 25, 3, 0, 0, 0, 0, 0, 15, 7, 1, 19);
        isOf("IKSBCIKSBIKSIKI", 29, 0, 0, 5, 4, 3, 2, 1, 15, 15, 0, NONE);
        isOf("ab(cd)", 7, 15, 0, 0, 0, 0, 0, 0, 6, 3, 1, 1);
        isOf("SII", 5, 0, 0, 2, 0, 1, 0, 0, 3, 3, 0, NONE);
        isOf(times("K(", 26) + "I" + times(")", 26), 53, 0, 0, 1, 26, 0, 0, 0, 77, 27, 1, FULL);
        // The signs of a TERM WRITTEN at their most.
        isOf(times("^x.", 79) + "x", 80, 0, 79, 0, 0, 0, 0, 0, 238, 80);

        Press x = with("a");
        for (int s : NO_SHELVES) {
            due("of(" + s + ", -1)", x.of(s, -1), UNKNOWN);
        }
        int[] no = {-1, 12, Integer.MIN_VALUE, Integer.MAX_VALUE};
        for (int what : no) {
            due("of(0, " + what + ")", x.of(0, what), OUTSIDE);
            due("of(1, " + what + ")", x.of(1, what), OUTSIDE);
        }
        for (int what = 0; what <= 11; what++) {
            due("of(1, " + what + ")", x.of(1, what), NOT);
        }
        due("of(0, 9) by itself", with("a(bc(de))").of(0, 9), 4);
    }

    private static void promise15Sign() {
        Press x = with("a(^x.xK)(bc)");
        due("WRITTEN", x.written(0), "a(^x.xK)(bc)");
        due("sign(0, 0)", x.sign(0, 0), 'a');
        due("sign(0, 11)", x.sign(0, 11), ')');
        due("sign(0, 12)", x.sign(0, 12), NONE);
        due("sign(0, most)", x.sign(0, Integer.MAX_VALUE), NONE);
        due("sign(0, -1)", x.sign(0, -1), OUTSIDE);
        due("sign(0, least)", x.sign(0, Integer.MIN_VALUE), OUTSIDE);
        due("sign(1, -1)", x.sign(1, -1), OUTSIDE);
        due("sign(1, 0)", x.sign(1, 0), NOT);
        for (int s : NO_SHELVES) {
            due("sign(" + s + ", -1)", x.sign(s, -1), UNKNOWN);
        }
    }

    private static void isKind(String text, String want) {
        Press x = with(text);
        due("KIND of " + text, x.kindWritten(0), want);
        due("KIND's end of " + text, x.kind(0, want.length()), NONE);
        due("has a KIND: " + text, x.of(0, 10), want.isEmpty() ? 0 : 1);
        due("signs of the KIND of " + text, x.of(0, 11), want.isEmpty() ? NONE : want.length());
    }

    private static void isFull(String text) {
        Press x = with(text, text, "SII");
        due("has a KIND: " + text, x.of(0, 10), 1);
        due("of(0, 11) of " + text, x.of(0, 11), FULL);
        due("kind(0, 0) of " + text, x.kind(0, 0), FULL);
        due("kind(0, most) of " + text, x.kind(0, Integer.MAX_VALUE), FULL);
        due("sameKind of two " + text, x.sameKind(0, 1), FULL);
        due("sameKind of it and none", x.sameKind(0, 2), FULL);
        due("sameKind of none and it", x.sameKind(2, 0), FULL);
    }

    private static void promise16Kind() {
        isKind("I", "a>a");
        isKind("K", "a>b>a");
        isKind("S", "(a>b>c)>(a>b)>a>c");
        isKind("B", "(a>b)>(c>a)>c>b");
        isKind("C", "(a>b>c)>b>a>c");
        isKind("x", "a");
        isKind("xy", "a");
        isKind("^x.y", "a>b");
        isKind("^x.x", "a>a");
        isKind("KI", "a>b>b");
        isKind("SKK", "a>a");
        isKind("SK", "(a>b)>a>a");
        isKind("BBB", "(a>b)>(c>d>a)>c>d>b");
        isKind("^x.^y.xy", "(a>b)>a>b");
        isKind("^x.^x.x", "a>b>b");
        isKind("^x.x(^x.x)", "((a>a)>b)>b");
        isKind("x(^x.x)", "a");
        isKind("^y.x", "a>b");
        isKind("II", "a>a");
        isKind("^f.K(fI)(fI)", "((a>a)>b)>b");
        isKind("^f.f(^x.x)x", "((a>a)>b>c)>c");
        isKind("^f.^g.fx(g(^y.x))", "(a>b>c)>((d>a)>b)>c");
        isKind("SII", "");
        isKind("^x.^y.K(xy)(yx)", "");
        isKind("K(K(f(xa))(fy))(K(g(yb))(gx))", "");
        isKind("K(K(f(xa))(fy))(K(g(yb))(gz))", "a");
        isKind("^x.xx", "");
        isKind("xx", "");
        isKind("^f.K(fI)(fK)", "");
        isKind("K(xI)(xK)", "");
        isKind("(^f.K(fI)(fK))I", "");
        isKind("KI(^x.xx)", "");
        isKind("KI(SII)", "");
        isKind("(^x.xx)(^x.xx)", "");
        kindsAtTheEdge();

        Press x = with("I");
        due("kind(0, -1)", x.kind(0, -1), OUTSIDE);
        due("kind(0, least)", x.kind(0, Integer.MIN_VALUE), OUTSIDE);
        due("kind(1, -1)", x.kind(1, -1), OUTSIDE);
        due("kind(1, 0)", x.kind(1, 0), NOT);
        due("kind(0, most)", x.kind(0, Integer.MAX_VALUE), NONE);
        for (int s : NO_SHELVES) {
            due("kind(" + s + ", -1)", x.kind(s, -1), UNKNOWN);
        }
    }

    private static void kindsAtTheEdge() {
        StringBuilder letters = new StringBuilder();
        for (char c = 'a'; c <= 'z'; c++) {
            letters.append(c).append('>');
        }
        isKind(times("K(", 25) + "I" + times(")", 25), letters + "z");
        isFull(times("K(", 26) + "I" + times(")", 26));
        // A KIND of 93 signs stands twice in one of 197.
        String twice = "(^x.^f.fxx)(^f.^x.f" + times("x", 43) + ")";
        due("197 signs", with(twice).of(0, 11), 197);
        due("199 signs", with("K(" + twice + ")").of(0, 11), 199);
        isFull("K(K(" + twice + "))");
        // Each time twice as many, far above what could be written.
        isFull(times("(^x.^f.fxx)(", 13) + "I" + times(")", 13));
        due("a KIND within itself, far inside", with(times("(^x.^f.fxx)(", 12) + "^x.xx" + times(")", 12)).of(0, 10), 0);
    }

    private static void inSteps(String text, int plainly, int shared) {
        Press x = with(text);
        due("steps(0, 0) of " + text, x.steps(0, 0), plainly);
        due("steps(0, 1) of " + text, x.steps(0, 1), shared);
        due("nothing changes", x.told(2), 1);
    }

    private static void promise17Steps() {
        inSteps("x", 0, 0);
        inSteps("Ix", 1, 1);
        inSteps("SII(Ia)", 5, 4);
        inSteps("SII(SII(Ka))", 9, 6);
        inSteps("SII(SII)", -2, -2);
        inSteps("SSS(SSS)(SSS)", -3, -3);
        inSteps("Ka(SII(SII))", 1, 1);
        inSteps("a(SII(SII))", -2, -2);
        // Four times one STEP and all within twice: 15, and 16 for each of 11: 191.
        String many = times("Saa(", 4) + times("I(", 11) + "b" + times(")", 15);
        due("191 STEPS", with(many).steps(0, 0), 191);
        String all = times("I(", 9) + many + times(")", 9);
        due("200 STEPS", with(all).steps(0, 0), 200);
        due("201 STEPS", with("I(" + all + ")").steps(0, 0), -2);
        due("200 STEPS worked", with(all).work(0, 0, 200), 200);
        due("200 STEPS of 201 worked", with("I(" + all + ")").work(0, 0, 200), 200);
        Press x = with("Ia", "^x.x");
        due("steps", x.steps(0, 0), 1);
        due("it is as it was", x.written(0), "Ia");
        for (int s : NO_SHELVES) {
            due("steps(" + s + ")", x.steps(s, 9), UNKNOWN);
        }
        int[] noHow = {-1, 2, Integer.MIN_VALUE, Integer.MAX_VALUE};
        for (int how : noHow) {
            due("steps how " + how, x.steps(0, how), OUTSIDE);
            due("steps how " + how + " of none", x.steps(3, how), OUTSIDE);
        }
        due("steps of none", x.steps(3, 0), NOT);
        due("steps with BINDERS", x.steps(1, 1), NOT);
        sizesAtTheEdge();
    }

    /** S (S a a) (S a a) z becomes a z (a z) (a z (a z)): 4 times z and 11; each d behind it is 2 more. */
    private static void sizesAtTheEdge() {
        String z = "(b" + times("c", 35) + ")";
        due("SIZE of z", with(z).of(0, 0), 71);
        inSteps("S(Saa)(Saa)" + z + "dd", 3, 3);
        inSteps("S(Saa)(Saa)" + z + "ddd", -3, -3);
    }

    private static void promise18Same() {
        Press x = with("a(bc)", " a(b c)", "abc", "^x.x");
        due("same(0, 1)", x.same(0, 1), 1);
        due("same(0, 2)", x.same(0, 2), 0);
        due("same(2, 0)", x.same(2, 0), 0);
        due("same(3, 3)", x.same(3, 3), 1);
        x.read(0, "^y.y");
        due("other NAMES of BINDERS", x.same(3, 0), 0);
        x.read(0, "^x.x");
        due("the same NAMES of BINDERS", x.same(3, 0), 1);
        x.read(0, "ab");
        due("a part is not the same", x.same(0, 2), 0);
        x.drop(0);
        due("same of none", x.same(0, 1), NOT);
        due("same with none", x.same(1, 0), NOT);
        due("same of none with none", x.same(0, 0), NOT);
        for (int s : NO_SHELVES) {
            due("same", x.same(s, 0), UNKNOWN);
            due("same", x.same(0, s), UNKNOWN);
        }
    }

    private static void promise19SameKind() {
        Press x = with("I", "SKK", "K", "SII");
        due("sameKind(0, 1)", x.sameKind(0, 1), 1);
        due("sameKind(0, 2)", x.sameKind(0, 2), 0);
        due("sameKind(2, 2)", x.sameKind(2, 2), 1);
        due("sameKind(0, 3)", x.sameKind(0, 3), 0);
        due("sameKind(3, 0)", x.sameKind(3, 0), 0);
        due("none and none", x.sameKind(3, 3), 1);
        x.read(2, "^x.xx");
        due("none and none", x.sameKind(2, 3), 1);
        x.read(0, "x");
        x.read(1, "yz");
        due("unknown ones", x.sameKind(0, 1), 1);
        x.read(1, "^x.y");
        x.read(0, "^x.x");
        due("a>b, a>a", x.sameKind(0, 1), 0);
        x.drop(0);
        due("sameKind of none", x.sameKind(0, 1), NOT);
        due("sameKind with none", x.sameKind(1, 0), NOT);
        for (int s : NO_SHELVES) {
            due("sameKind", x.sameKind(s, 0), UNKNOWN);
            due("sameKind", x.sameKind(0, s), UNKNOWN);
        }
    }

    private static void promise20Keep() {
        Press x = with("abc", "I");
        x.feed('q');
        due("keep(0)", x.keep(0), 1);
        due("nothing can be undone", x.told(2), 0);
        due("undo()", x.undo(), NOT);
        due("the shelves stay", x.told(1), 3);
        due("the text stays", x.told(0), 1);
        x.drop(0);
        due("keep(1)", x.keep(1), 1);
        x.drop(1);
        due("goBack(0)", x.goBack(0), 1);
        due("as IMAGE 0 has it", x.told(1), 3);
        due("goBack(1)", x.goBack(1), 1);
        due("as IMAGE 1 has it", x.told(1), 2);
        due("keep(0) again", x.keep(0), 1);
        x.drop(1);
        x.goBack(0);
        due("as IMAGE 0 has it now", x.told(1), 2);
        x.drop(1);
        for (int i : NO_IMAGES) {
            due("keep(" + i + ")", x.keep(i), UNKNOWN);
        }
        due("nothing was done", x.told(2), 1);
    }

    private static void promise21GoBack() {
        Press x = with("abc", "I");
        due("goBack(0) of none", x.goBack(0), NOT);
        x.keep(0);
        due("goBack(1) of none", x.goBack(1), NOT);
        x.read(0, "K");
        x.drop(1);
        x.drift(3, 4, 4);
        x.feed('q');
        due("goBack(1) of none", x.goBack(1), NOT);
        due("that does nothing", x.told(2), 3);
        for (int i : NO_IMAGES) {
            due("goBack(" + i + ")", x.goBack(i), UNKNOWN);
        }
        due("goBack(0)", x.goBack(0), 1);
        due("shelf 0", x.written(0), "abc");
        due("shelf 1", x.written(1), "I");
        due("the shelves", x.told(1), 3);
        due("nothing can be undone", x.told(2), 0);
        due("the text stays", x.told(0), 1);
        x.compile(0);
        x.read(0, "");
        due("an IMAGE stays as it was", x.goBack(0), 1);
        due("shelf 0", x.written(0), "abc");
    }

    private static void constants() {
        due("NONE", BinderPress.NONE, NONE);
        due("UNKNOWN", BinderPress.UNKNOWN, UNKNOWN);
        due("OUTSIDE", BinderPress.OUTSIDE, OUTSIDE);
        due("NOT", BinderPress.NOT, NOT);
        due("FULL", BinderPress.FULL, FULL);
    }

    public static void main(String[] args) {
        constants();
        promise1NewObject();
        promise2Feed();
        promise3Term();
        promise4Fault();
        promise5Compile();
        promise6TakeOut();
        promise7Put();
        promise8PutIn();
        promise9Work();
        promise10Drop();
        promise11Drift();
        promise12Undo();
        promise13Told();
        promise14Of();
        promise15Sign();
        promise16Kind();
        promise17Steps();
        promise18Same();
        promise19SameKind();
        promise20Keep();
        promise21GoBack();
        System.out.println(looked + " answers looked at, " + wrong + " not as due");
        if (wrong != 0) {
            System.exit(1);
        }
    }
}
