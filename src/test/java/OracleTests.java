import java.util.ArrayDeque;
import java.util.ArrayList;
import java.util.Collections;
import java.util.Deque;
import java.util.HashMap;
import java.util.HashSet;
import java.util.IdentityHashMap;
import java.util.List;
import java.util.Map;
import java.util.Random;
import java.util.Set;

/**
 * Long runs of mixed calls, each answer beside that of a second program, written from the document alone in
 * another way: trees and recursion where BinderPress has rows and loops, and no bound on what is in between.
 */
public final class OracleTests {
    static final int NONE = -1, UNKNOWN = -1000000001, OUTSIDE = -1000000002, NOT = -1000000003, FULL = -1000000004;
    /** What the model says where it would take too long to know. */
    static final int FREE = Integer.MIN_VALUE;

    static int wrong = 0;
    static long calls = 0;
    static final Map<String, Integer> seen = new HashMap<>();

    // ---- the model's terms

    static final class Tree {
        final char what; // a letter, '(' for puts, '^' for a binder
        final char name; // of a binder
        final Tree m, n; // n is the body of a binder too
        final int size;

        Tree(char what, char name, Tree m, Tree n) {
            this.what = what;
            this.name = name;
            this.m = m;
            this.n = n;
            this.size = 1 + (m == null ? 0 : m.size) + (n == null ? 0 : n.size);
        }

        boolean isPuts() {
            return what == '(';
        }

        boolean isBinder() {
            return what == '^';
        }
    }

    static Tree leaf(char c) {
        return new Tree(c, ' ', null, null);
    }

    static Tree puts(Tree... parts) {
        Tree t = parts[0];
        for (int i = 1; i < parts.length; i++) {
            t = new Tree('(', ' ', t, parts[i]);
        }
        return t;
    }

    static Tree binder(char name, Tree body) {
        return new Tree('^', name, null, body);
    }

    static final class Fault extends RuntimeException {
        private static final long serialVersionUID = 1L;
        final int number, place;

        Fault(int number, int place) {
            this.number = number;
            this.place = place;
        }
    }

    static final class Parser {
        final int[] text;
        int pos = 0, size = 0;

        Parser(List<Integer> text) {
            this.text = text.stream().mapToInt(i -> i).toArray();
        }

        int peek() {
            while (pos < text.length && text[pos] == 32) {
                pos++;
            }
            return pos < text.length ? text[pos] : -1;
        }

        Fault bad() {
            return new Fault(1, pos);
        }

        void more(int n) {
            size += n;
            if (size > 120) {
                throw new Fault(2, pos);
            }
        }

        Tree all() {
            Tree t = row();
            if (peek() != -1) {
                throw bad();
            }
            return t;
        }

        Tree row() {
            Tree t = null;
            while (peek() != -1 && peek() != ')') {
                Tree next = item(t != null);
                t = t == null ? next : puts(t, next);
            }
            if (t == null) {
                throw bad();
            }
            return t;
        }

        Tree item(boolean second) {
            int c = peek();
            int extra = second ? 1 : 0;
            if (c >= 'a' && c <= 'z' || c != 0 && "IKSBC".indexOf(c) >= 0) {
                more(1 + extra);
                pos++;
                return leaf((char) c);
            }
            if (c == '(') {
                more(extra);
                pos++;
                Tree t = row();
                if (peek() != ')') {
                    throw bad();
                }
                pos++;
                return t;
            }
            if (c == '^') {
                more(1 + extra);
                pos++;
                int name = peek();
                if (name < 'a' || name > 'z') {
                    throw bad();
                }
                pos++;
                if (peek() != '.') {
                    throw bad();
                }
                pos++;
                return binder((char) name, row());
            }
            throw bad();
        }
    }

    static String written(Tree t) {
        if (t.isBinder()) {
            return "^" + t.name + "." + written(t.n);
        }
        if (t.isPuts()) {
            String m = t.m.isBinder() ? "(" + written(t.m) + ")" : written(t.m);
            String n = t.n.isBinder() || t.n.isPuts() ? "(" + written(t.n) + ")" : written(t.n);
            return m + n;
        }
        return "" + t.what;
    }

    static int free(Tree t) {
        if (t.isBinder()) {
            return free(t.n) & ~(1 << (t.name - 'a'));
        }
        if (t.isPuts()) {
            return free(t.m) | free(t.n);
        }
        return t.what >= 'a' ? 1 << (t.what - 'a') : 0;
    }

    static boolean isFree(char x, Tree t) {
        return (free(t) >> (x - 'a') & 1) == 1;
    }

    static int often(char what, Tree t) {
        int here = t.what == what ? 1 : 0;
        return here + (t.m == null ? 0 : often(what, t.m)) + (t.n == null ? 0 : often(what, t.n));
    }

    static int depth(Tree t) {
        int m = t.m == null ? 0 : depth(t.m);
        int n = t.n == null ? 0 : depth(t.n);
        return 1 + Math.max(m, n);
    }

    static Tree takeOut(char x, Tree t) {
        if (t.what == x) {
            return leaf('I');
        }
        if (!isFree(x, t)) {
            return puts(leaf('K'), t);
        }
        if (t.n.what == x && !isFree(x, t.m)) {
            return t.m;
        }
        if (!isFree(x, t.m)) {
            return puts(leaf('B'), t.m, takeOut(x, t.n));
        }
        if (!isFree(x, t.n)) {
            return puts(leaf('C'), takeOut(x, t.m), t.n);
        }
        return puts(leaf('S'), takeOut(x, t.m), takeOut(x, t.n));
    }

    static Tree compiled(Tree t) {
        if (t.isBinder()) {
            return takeOut(t.name, compiled(t.n));
        }
        return t.isPuts() ? puts(compiled(t.m), compiled(t.n)) : t;
    }

    static Tree putIn(char x, Tree t, Tree instead) {
        if (t.isPuts()) {
            return puts(putIn(x, t.m, instead), putIn(x, t.n, instead));
        }
        return t.what == x ? instead : t;
    }

    // ---- the model's steps

    static int arity(char c) {
        return c == 'I' ? 1 : c == 'K' ? 2 : c == 'S' || c == 'B' || c == 'C' ? 3 : 99;
    }

    static Tree step(Tree t) {
        List<Tree> args = new ArrayList<>();
        Tree head = t;
        while (head.isPuts()) {
            args.add(0, head.n);
            head = head.m;
        }
        int wants = arity(head.what);
        if (args.size() >= wants) {
            Tree r = contract(head.what, args);
            for (int i = wants; i < args.size(); i++) {
                r = puts(r, args.get(i));
            }
            return r;
        }
        for (int i = 0; i < args.size(); i++) {
            Tree next = step(args.get(i));
            if (next != null) {
                args.set(i, next);
                Tree r = head;
                for (Tree a : args) {
                    r = puts(r, a);
                }
                return r;
            }
        }
        return null;
    }

    static Tree contract(char sign, List<Tree> a) {
        switch (sign) {
            case 'I':
            case 'K':
                return a.get(0);
            case 'S':
                return puts(a.get(0), a.get(2), puts(a.get(1), a.get(2)));
            case 'B':
                return puts(a.get(0), puts(a.get(1), a.get(2)));
            default:
                return puts(a.get(0), a.get(2), a.get(1));
        }
    }

    /** A thing that may stand in several places; what takes its place is another thing. */
    static final class Thing {
        char what;
        Thing m, n, now;

        Thing real() {
            return now == null ? this : now.real();
        }
    }

    static Thing thing(Tree t) {
        Thing r = new Thing();
        r.what = t.what;
        r.m = t.m == null ? null : thing(t.m);
        r.n = t.n == null ? null : thing(t.n);
        return r;
    }

    static Thing pair(Thing m, Thing n) {
        Thing r = new Thing();
        r.what = '(';
        r.m = m;
        r.n = n;
        return r;
    }

    static boolean stepShared(Thing given) {
        Deque<Thing> spine = new ArrayDeque<>();
        Thing head = given.real();
        while (head.what == '(') {
            spine.push(head);
            head = head.m.real();
        }
        List<Thing> from = new ArrayList<>(spine);
        int wants = arity(head.what);
        if (from.size() >= wants) {
            Thing whole = from.get(wants - 1);
            Thing x = from.get(0).n;
            Thing y = wants > 1 ? from.get(1).n : null;
            Thing z = wants > 2 ? from.get(2).n : null;
            switch (head.what) {
                case 'I':
                case 'K':
                    whole.now = x;
                    break;
                case 'S':
                    whole.now = pair(pair(x, z), pair(y, z));
                    break;
                case 'B':
                    whole.now = pair(x, pair(y, z));
                    break;
                default:
                    whole.now = pair(pair(x, z), y);
                    break;
            }
            return true;
        }
        for (Thing node : from) {
            if (stepShared(node.n)) {
                return true;
            }
        }
        return false;
    }

    static Tree tree(Thing given) {
        Thing t = given.real();
        return t.what == '(' ? puts(tree(t.m), tree(t.n)) : leaf(t.what);
    }

    static final class Outcome {
        Tree term;
        int done;
        boolean tooBig, ended;
    }

    static Outcome worked(Tree t, int how, int most) {
        Outcome o = new Outcome();
        o.term = t;
        Thing thing = thing(t);
        while (true) {
            Tree next = null;
            if (how == 0) {
                next = step(o.term);
            } else {
                // One STEP too many must not be done, so whether there is one is looked at on what is written out.
                next = step(o.term) == null ? null : o.term;
            }
            if (next == null) {
                o.ended = true;
                return o;
            }
            if (o.done == most) {
                return o;
            }
            if (how == 1) {
                stepShared(thing);
                next = tree(thing);
            }
            o.term = next;
            o.done++;
            if (o.term.size > 300) {
                o.tooBig = true;
                return o;
            }
        }
    }

    // ---- the model's kinds

    static final class TooLong extends RuntimeException {
        private static final long serialVersionUID = 1L;
    }

    static final class Kind {
        Kind from, to, now;

        Kind real() {
            return now == null ? this : now.real();
        }
    }

    static final class Inference {
        int effort = 0;
        boolean failed = false;
        final Map<Character, Kind> free = new HashMap<>();

        Kind arrow(Kind from, Kind to) {
            Kind k = new Kind();
            k.from = from;
            k.to = to;
            return k;
        }

        Kind of(Tree t, Map<Character, Kind> bound) {
            if (t.isBinder()) {
                Map<Character, Kind> inner = new HashMap<>(bound);
                Kind k = new Kind();
                inner.put(t.name, k);
                return arrow(k, of(t.n, inner));
            }
            if (t.isPuts()) {
                Kind l = new Kind();
                Kind m = of(t.m, bound);
                Kind n = of(t.n, bound);
                unify(m, arrow(n, l));
                return l;
            }
            if (t.what >= 'a') {
                return bound.containsKey(t.what) ? bound.get(t.what) : free.computeIfAbsent(t.what, c -> new Kind());
            }
            Kind a = new Kind(), b = new Kind(), c = new Kind();
            switch (t.what) {
                case 'I':
                    return arrow(a, a);
                case 'K':
                    return arrow(a, arrow(b, a));
                case 'S':
                    return arrow(arrow(a, arrow(b, c)), arrow(arrow(a, b), arrow(a, c)));
                case 'B':
                    return arrow(arrow(b, c), arrow(arrow(a, b), arrow(a, c)));
                default:
                    return arrow(arrow(a, arrow(b, c)), arrow(b, arrow(a, c)));
            }
        }

        void unify(Kind k, Kind l) {
            if (failed) {
                return;
            }
            if (effort++ > 200000) {
                throw new TooLong();
            }
            Kind a = k.real(), b = l.real();
            if (a == b) {
                return;
            }
            if (a.from == null) {
                bind(a, b);
            } else if (b.from == null) {
                bind(b, a);
            } else {
                unify(a.from, b.from);
                unify(a.to, b.to);
            }
        }

        void bind(Kind unknown, Kind k) {
            if (within(unknown, k, Collections.newSetFromMap(new IdentityHashMap<>()))) {
                failed = true;
            } else {
                unknown.now = k;
            }
        }

        boolean within(Kind unknown, Kind given, Set<Kind> looked) {
            Kind k = given.real();
            if (k == unknown) {
                return true;
            }
            if (k.from == null || !looked.add(k)) {
                return false;
            }
            return within(unknown, k.from, looked) || within(unknown, k.to, looked);
        }
    }

    /** The KIND WRITTEN; null: none; "FULL". */
    static String kindOf(Tree t) {
        Inference i = new Inference();
        Kind k = i.of(t, new HashMap<>());
        if (i.failed) {
            return null;
        }
        Map<Kind, Character> letters = new IdentityHashMap<>();
        StringBuilder out = new StringBuilder();
        return writeKind(k, letters, out) && letters.size() <= 26 && out.length() <= 200 ? out.toString() : "FULL";
    }

    static boolean writeKind(Kind given, Map<Kind, Character> letters, StringBuilder out) {
        if (out.length() > 200) {
            return false;
        }
        Kind k = given.real();
        if (k.from == null) {
            if (!letters.containsKey(k)) {
                letters.put(k, (char) ('a' + letters.size()));
            }
            out.append(letters.get(k));
            return true;
        }
        boolean brackets = k.from.real().from != null;
        out.append(brackets ? "(" : "");
        if (!writeKind(k.from, letters, out)) {
            return false;
        }
        out.append(brackets ? ")>" : ">");
        return writeKind(k.to, letters, out);
    }

    // ---- the model

    static final class Model {
        List<Integer> text = new ArrayList<>();
        Tree[] shelves = new Tree[4];
        final Tree[][] images = new Tree[2][];
        final Deque<Tree[]> past = new ArrayDeque<>();
        int faultAt = NONE;

        static boolean shelf(int s) {
            return s >= 0 && s <= 3;
        }

        static boolean name(int c) {
            return c >= 97 && c <= 122;
        }

        int change(int s, Tree t) {
            if (t != null && t.size > 120) {
                return FULL;
            }
            past.addLast(shelves.clone());
            if (past.size() > 10) {
                past.removeFirst();
            }
            shelves[s] = t;
            return t == null ? 0 : t.size;
        }

        int feed(int letter) {
            if (letter < 0 || letter > 255) {
                return OUTSIDE;
            }
            if (text.size() == 240) {
                return FULL;
            }
            text.add(letter);
            return text.size();
        }

        int term(int s) {
            if (!shelf(s)) {
                return UNKNOWN;
            }
            List<Integer> given = text;
            text = new ArrayList<>();
            try {
                Tree t = new Parser(given).all();
                faultAt = NONE;
                return change(s, t);
            } catch (Fault f) {
                faultAt = f.place;
                return -10 - f.number;
            }
        }

        int compile(int s) {
            return !shelf(s) ? UNKNOWN : shelves[s] == null ? NOT : change(s, compiled(shelves[s]));
        }

        int takeOut(int s, int x) {
            if (!shelf(s)) {
                return UNKNOWN;
            }
            if (!name(x)) {
                return OUTSIDE;
            }
            return shelves[s] == null ? NOT : change(s, OracleTests.takeOut((char) x, compiled(shelves[s])));
        }

        int put(int s, int m, int n) {
            if (!shelf(s) || !shelf(m) || !shelf(n)) {
                return UNKNOWN;
            }
            return shelves[m] == null || shelves[n] == null ? NOT : change(s, puts(shelves[m], shelves[n]));
        }

        boolean unfit(int s) {
            return shelves[s] == null || often('^', shelves[s]) > 0;
        }

        int putIn(int s, int x, int n) {
            if (!shelf(s) || !shelf(n)) {
                return UNKNOWN;
            }
            if (!name(x)) {
                return OUTSIDE;
            }
            return unfit(s) || unfit(n) ? NOT : change(s, OracleTests.putIn((char) x, shelves[s], shelves[n]));
        }

        int work(int s, int how, int n) {
            if (!shelf(s)) {
                return UNKNOWN;
            }
            if (how < 0 || how > 1 || n < 0 || n > 200) {
                return OUTSIDE;
            }
            if (unfit(s)) {
                return NOT;
            }
            Outcome o = worked(shelves[s], how, n);
            return change(s, o.term) == FULL ? FULL : o.done;
        }

        int drop(int s) {
            if (!shelf(s)) {
                return UNKNOWN;
            }
            if (shelves[s] == null) {
                return NOT;
            }
            int size = shelves[s].size;
            change(s, null);
            return size;
        }

        int drift(int s, int n, int seed) {
            if (!shelf(s)) {
                return UNKNOWN;
            }
            if (n < 1 || n > 40 || seed < 1 || seed > 999999) {
                return OUTSIDE;
            }
            long x = seed * 16807L % 2147483647L;
            Tree t = leaf("IKSBC".charAt((int) (x % 5)));
            for (int i = 1; i < n; i++) {
                x = x * 16807L % 2147483647L;
                boolean other = x % 2 == 1;
                x = x * 16807L % 2147483647L;
                Tree sign = leaf("IKSBC".charAt((int) (x % 5)));
                t = other ? puts(sign, t) : puts(t, sign);
            }
            return change(s, t);
        }

        int undo() {
            if (past.isEmpty()) {
                return NOT;
            }
            shelves = past.removeLast();
            return past.size();
        }

        int told(int what) {
            if (what == 1) {
                int bits = 0;
                for (int s = 0; s < 4; s++) {
                    bits += shelves[s] == null ? 0 : 1 << s;
                }
                return bits;
            }
            return what == 0 ? text.size() : what == 2 ? past.size() : OUTSIDE;
        }

        int of(int s, int what) {
            if (!shelf(s)) {
                return UNKNOWN;
            }
            if (what < 0 || what > 11) {
                return OUTSIDE;
            }
            Tree t = shelves[s];
            if (t == null) {
                return NOT;
            }
            switch (what) {
                case 0:
                    return t.size;
                case 1:
                    return free(t);
                case 2:
                    return often('^', t);
                case 8:
                    return written(t).length();
                case 9:
                    return depth(t);
                case 10:
                    return kindOf(t) == null ? 0 : 1;
                case 11:
                    String k = kindOf(t);
                    return k == null ? NONE : k.equals("FULL") ? FULL : k.length();
                default:
                    return often("IKSBC".charAt(what - 3), t);
            }
        }

        int refusedAt(int s, int i) {
            return !shelf(s) ? UNKNOWN : i < 0 ? OUTSIDE : shelves[s] == null ? NOT : 0;
        }

        int sign(int s, int i) {
            if (refusedAt(s, i) != 0) {
                return refusedAt(s, i);
            }
            String w = written(shelves[s]);
            return i < w.length() ? w.charAt(i) : NONE;
        }

        int kind(int s, int i) {
            if (refusedAt(s, i) != 0) {
                return refusedAt(s, i);
            }
            String k = kindOf(shelves[s]);
            if (k == null) {
                return NONE;
            }
            return k.equals("FULL") ? FULL : i < k.length() ? k.charAt(i) : NONE;
        }

        int steps(int s, int how) {
            if (!shelf(s)) {
                return UNKNOWN;
            }
            if (how < 0 || how > 1) {
                return OUTSIDE;
            }
            if (unfit(s)) {
                return NOT;
            }
            Outcome o = worked(shelves[s], how, 200);
            return o.tooBig ? -3 : o.ended ? o.done : -2;
        }

        int refusedTwo(int s, int other) {
            if (!shelf(s) || !shelf(other)) {
                return UNKNOWN;
            }
            return shelves[s] == null || shelves[other] == null ? NOT : 0;
        }

        int same(int s, int other) {
            if (refusedTwo(s, other) != 0) {
                return refusedTwo(s, other);
            }
            return written(shelves[s]).equals(written(shelves[other])) ? 1 : 0;
        }

        int sameKind(int s, int other) {
            if (refusedTwo(s, other) != 0) {
                return refusedTwo(s, other);
            }
            String k = kindOf(shelves[s]), l = kindOf(shelves[other]);
            if ("FULL".equals(k) || "FULL".equals(l)) {
                return FULL;
            }
            return k == null ? (l == null ? 1 : 0) : k.equals(l) ? 1 : 0;
        }

        int keep(int i) {
            if (i < 0 || i > 1) {
                return UNKNOWN;
            }
            images[i] = shelves.clone();
            past.clear();
            return 1;
        }

        int goBack(int i) {
            if (i < 0 || i > 1) {
                return UNKNOWN;
            }
            if (images[i] == null) {
                return NOT;
            }
            shelves = images[i].clone();
            past.clear();
            return 1;
        }
    }

    // ---- the runs

    static final class Run {
        final Random random;
        final BinderPress press = new BinderPress();
        final Model model = new Model();
        final StringBuilder log = new StringBuilder();
        final int number;
        final int flavour;
        int left = 512;

        Run(int number) {
            this.number = number;
            this.random = new Random(number * 7919L + 13);
            this.flavour = number % 4;
        }

        int pick(int n) {
            return random.nextInt(n);
        }

        int shelf() {
            return pick(40) == 0 ? (pick(2) == 0 ? -1 : 4) : pick(4);
        }

        int nameArg() {
            return pick(30) == 0 ? (pick(2) == 0 ? 96 : 123) : 'a' + pick(5);
        }

        void due(String call, int got, int want) {
            left--;
            calls++;
            log.append(call).append(" = ").append(want).append('\n');
            String key = call.substring(0, call.indexOf('('));
            String[] refusals = {"UNKNOWN", "OUTSIDE", "NOT", "FULL"};
            boolean refused = want <= UNKNOWN && want >= FULL;
            String answer = refused ? refusals[UNKNOWN - want] : want < NONE ? "" + want : want == NONE ? "none" : "some";
            seen.merge(key + " " + answer, 1, Integer::sum);
            if (got != want && want != FREE) {
                wrong++;
                if (wrong <= 5) {
                    System.out.println("run " + number + ": " + call + " answered " + got + ", due is " + want);
                    System.out.println(log);
                }
                left = 0;
            }
        }

        interface Later {
            int answer();
        }

        void dueKind(String call, int got, Later want) {
            int due;
            try {
                due = want.answer();
            } catch (TooLong e) {
                due = FREE;
            }
            due(call, got, due);
        }

        void feed(int letter) {
            due("feed(" + letter + ")", press.feed(letter), model.feed(letter));
        }

        String randomTerm(int depth) {
            int r = pick(10);
            String names = flavour == 0 ? "ab" : "abcxyz";
            if (depth <= 0 || r < 2) {
                return pick(2) == 0 ? "" + names.charAt(pick(names.length())) : "" + "IKSBC".charAt(pick(5));
            }
            if (r < 4 && flavour != 2) {
                return "^" + names.charAt(pick(names.length())) + "." + randomTerm(depth - 1);
            }
            StringBuilder b = new StringBuilder();
            int n = 1 + pick(3);
            for (int i = 0; i < n; i++) {
                b.append(pick(3) == 0 ? "" + names.charAt(pick(names.length())) : "(" + randomTerm(depth - 1) + ")");
            }
            return b.toString();
        }

        /** As long as a text may be, about as large as a TERM may be. */
        String longTerm() {
            StringBuilder b = new StringBuilder();
            int items = 50 + pick(15);
            int open = 0;
            for (int i = 0; i < items; i++) {
                if (pick(6) == 0) {
                    b.append("^").append((char) ('a' + pick(4))).append('.');
                    items--;
                } else if (pick(4) == 0) {
                    b.append('(');
                    open++;
                }
                b.append(pick(3) > 0 ? (char) ('a' + pick(4)) : "IKSBC".charAt(pick(5)));
                if (open > 0 && pick(4) == 0) {
                    b.append(')');
                    open--;
                }
            }
            for (int i = 0; i < open; i++) {
                b.append(')');
            }
            return b.toString();
        }

        /** Many BINDERS around few NAMES: what comes when they are taken out may get small again, or does not. */
        String boundTerm() {
            StringBuilder b = new StringBuilder();
            int binders = 1 + pick(9);
            int apart = 1 + pick(binders);
            for (int i = 0; i < binders; i++) {
                b.append("^").append((char) ('a' + i % apart)).append('.');
            }
            int items = 1 + pick(pick(2) == 0 ? 4 : 12);
            b.append('(');
            for (int i = 0; i < items; i++) {
                String pair = "(" + (char) ('a' + pick(binders)) + (char) ('a' + pick(binders)) + ")";
                b.append(pick(2) == 0 ? pair : "" + (char) ('a' + pick(binders)));
            }
            b.append(')');
            for (int i = pick(3) == 0 ? pick(binders) : 0; i < binders; i++) {
                b.append((char) ('a' + i));
            }
            return b.toString();
        }

        /** Much of one kind at the end of BINDERS that go again: around the size of 120 in between. */
        String edgeTerm() {
            StringBuilder b = new StringBuilder("^a.^b.^c.(");
            int items = 50 + pick(10);
            int bound = pick(3);
            for (int i = 0; i < bound; i++) {
                b.append("^x.x");
            }
            for (int i = 0; i < items; i++) {
                b.append("K");
            }
            return b.append(")abc").toString();
        }

        /** KINDS that grow fast, or have many letters. */
        String wideKind() {
            StringBuilder b = new StringBuilder();
            int n = 1 + pick(9);
            if (pick(2) == 0) {
                for (int i = 0; i < n; i++) {
                    b.append("(^x.^f.fxx)(");
                }
                b.append("^y.y");
                for (int i = 0; i < n; i++) {
                    b.append(')');
                }
                return b.toString();
            }
            n = 20 + pick(12);
            for (int i = 0; i < n; i++) {
                b.append("K(");
            }
            b.append("I");
            for (int i = 0; i < n; i++) {
                b.append(')');
            }
            return b.toString();
        }

        /** Much that comes twice, so that there are many STEPS and what is SHARED matters. */
        String busyTerm(int depth) {
            String[] atoms = {"SII", "S", "S", "I", "K", "B", "C", "SS", "CI", "SBI", "a", "b"};
            StringBuilder b = new StringBuilder();
            int n = 2 + pick(3);
            for (int i = 0; i < n; i++) {
                b.append(depth <= 0 || pick(3) == 0 ? "(" + atoms[pick(atoms.length)] + ")" : "(" + busyTerm(depth - 1) + ")");
            }
            return b.toString();
        }

        String someTerm() {
            switch (pick(12)) {
                case 4:
                case 5:
                case 6:
                case 7:
                    return busyTerm(2 + pick(2));
                case 0:
                    return longTerm();
                case 1:
                    return boundTerm();
                case 2:
                    return edgeTerm();
                case 3:
                    return wideKind();
                default:
                    return randomTerm(2 + pick(4));
            }
        }

        void feedTerm() {
            StringBuilder b = new StringBuilder(someTerm());
            int faults = pick(4) == 0 ? 1 + pick(2) : 0;
            if (pick(20) == 0) {
                int blanks = 200 + pick(60);
                for (int i = 0; i < blanks; i++) {
                    b.insert(pick(b.length() + 1), ' ');
                }
            }
            for (int i = 0; i < faults && b.length() > 0; i++) {
                int at = pick(b.length());
                switch (pick(4)) {
                    case 0:
                        b.deleteCharAt(at);
                        break;
                    case 1:
                        b.insert(at, "^.()aID \u0000\u00ff".charAt(pick(10)));
                        break;
                    case 2:
                        b.setLength(at);
                        break;
                    default:
                        b.insert(at, ' ');
                        break;
                }
            }
            int letters = Math.min(b.length(), 260);
            // Behind its 512th call an object's answers are free, and what a text begins is to be read, too.
            if (letters + 2 > left) {
                ask();
                return;
            }
            for (int i = 0; i < letters; i++) {
                feed(b.charAt(i));
            }
            int s = shelf();
            due("term(" + s + ")", press.term(s), model.term(s));
            due("fault()", press.fault(), model.faultAt);
        }

        void change() {
            int s = shelf(), m = shelf(), n = shelf();
            switch (pick(9)) {
                case 0:
                    due("compile(" + s + ")", press.compile(s), model.compile(s));
                    break;
                case 1:
                    int x = nameArg();
                    due("takeOut(" + s + ", " + x + ")", press.takeOut(s, x), model.takeOut(s, x));
                    break;
                case 2:
                    due("put(" + s + ", " + m + ", " + n + ")", press.put(s, m, n), model.put(s, m, n));
                    break;
                case 3:
                    int y = nameArg();
                    due("putIn(" + s + ", " + y + ", " + n + ")", press.putIn(s, y, n), model.putIn(s, y, n));
                    break;
                case 4:
                    int how = pick(25) == 0 ? pick(5) - 2 : pick(2);
                    int most = pick(25) == 0 ? (pick(2) == 0 ? -1 : 201) : pick(3) == 0 ? 200 : pick(6);
                    due("work(" + s + ", " + how + ", " + most + ")", press.work(s, how, most), model.work(s, how, most));
                    break;
                case 5:
                    if (pick(3) == 0) {
                        due("drop(" + s + ")", press.drop(s), model.drop(s));
                    }
                    break;
                case 6:
                    int many = pick(25) == 0 ? pick(3) * 40 + 1 - pick(2) : 1 + pick(40);
                    int seed = pick(25) == 0 ? pick(2) * 1000000 : 1 + pick(999999);
                    due("drift(" + s + ", " + many + ", " + seed + ")", press.drift(s, many, seed), model.drift(s, many, seed));
                    break;
                case 7:
                    int times = pick(8) == 0 ? 12 : 1;
                    for (int i = 0; i < times && left > 0; i++) {
                        due("undo()", press.undo(), model.undo());
                    }
                    break;
                default:
                    int image = pick(10) == 0 ? pick(2) * 3 - 1 : pick(2);
                    if (pick(5) == 0) {
                        due("keep(" + image + ")", press.keep(image), model.keep(image));
                    } else if (pick(4) == 0) {
                        due("goBack(" + image + ")", press.goBack(image), model.goBack(image));
                    }
                    break;
            }
        }

        void ask() {
            int s = shelf(), other = shelf();
            int i = pick(15) == 0 ? -1 : pick(4) == 0 ? pick(200) : pick(30);
            switch (pick(8)) {
                case 0:
                    int w = pick(25) == 0 ? pick(2) * 4 - 1 : pick(3);
                    due("told(" + w + ")", press.told(w), model.told(w));
                    break;
                case 1:
                case 2:
                    int what = pick(25) == 0 ? pick(2) * 13 - 1 : pick(12);
                    dueKind("of(" + s + ", " + what + ")", press.of(s, what), () -> model.of(s, what));
                    break;
                case 3:
                    due("sign(" + s + ", " + i + ")", press.sign(s, i), model.sign(s, i));
                    break;
                case 4:
                    dueKind("kind(" + s + ", " + i + ")", press.kind(s, i), () -> model.kind(s, i));
                    break;
                case 5:
                    int how = pick(25) == 0 ? pick(5) - 2 : pick(2);
                    due("steps(" + s + ", " + how + ")", press.steps(s, how), model.steps(s, how));
                    break;
                case 6:
                    due("same(" + s + ", " + other + ")", press.same(s, other), model.same(s, other));
                    break;
                default:
                    dueKind("sameKind(" + s + ", " + other + ")", press.sameKind(s, other), () -> model.sameKind(s, other));
                    break;
            }
        }

        void go() {
            while (left > 0) {
                int r = pick(10);
                if (r == 0) {
                    feedTerm();
                } else if (r < 5) {
                    change();
                } else {
                    ask();
                }
            }
        }
    }

    public static void main(String[] args) {
        int runs = args.length > 0 ? Integer.parseInt(args[0]) : 3000;
        for (int i = 0; i < runs && wrong == 0; i++) {
            new Run(i).go();
        }
        if (args.length > 1) {
            new java.util.TreeMap<>(seen).forEach((k, v) -> System.out.println(k + ": " + v));
        }
        System.out.println(calls + " calls, " + wrong + " answers are not as the model's");
        if (wrong != 0) {
            System.exit(1);
        }
    }
}
