/** A BinderPress whose calls are counted: what it answers behind its 512th is free, so no test may look at it. */
final class Press {
    private static final int CALLS_MOST = 512;

    private final BinderPress x = new BinderPress();
    private int calls = 0;

    private BinderPress counted() {
        calls++;
        if (calls > CALLS_MOST) {
            throw new IllegalStateException("the test uses an object for more than 512 calls");
        }
        return x;
    }

    int calls() {
        return calls;
    }

    int feed(int letter) {
        return counted().feed(letter);
    }

    int term(int s) {
        return counted().term(s);
    }

    int fault() {
        return counted().fault();
    }

    int compile(int s) {
        return counted().compile(s);
    }

    int takeOut(int s, int name) {
        return counted().takeOut(s, name);
    }

    int put(int s, int m, int n) {
        return counted().put(s, m, n);
    }

    int putIn(int s, int name, int n) {
        return counted().putIn(s, name, n);
    }

    int work(int s, int how, int n) {
        return counted().work(s, how, n);
    }

    int drop(int s) {
        return counted().drop(s);
    }

    int drift(int s, int n, int seed) {
        return counted().drift(s, n, seed);
    }

    int undo() {
        return counted().undo();
    }

    int told(int what) {
        return counted().told(what);
    }

    int of(int s, int what) {
        return counted().of(s, what);
    }

    int sign(int s, int i) {
        return counted().sign(s, i);
    }

    int kind(int s, int i) {
        return counted().kind(s, i);
    }

    int steps(int s, int how) {
        return counted().steps(s, how);
    }

    int same(int s, int other) {
        return counted().same(s, other);
    }

    int sameKind(int s, int other) {
        return counted().sameKind(s, other);
    }

    int keep(int i) {
        return counted().keep(i);
    }

    int goBack(int i) {
        return counted().goBack(i);
    }

    // ---- several calls at once

    void feedAll(String text) {
        for (int i = 0; i < text.length(); i++) {
            feed(text.charAt(i));
        }
    }

    int read(int s, String text) {
        feedAll(text);
        return term(s);
    }

    String written(int s) {
        StringBuilder b = new StringBuilder();
        for (int c = sign(s, 0); c >= 0; c = sign(s, b.length())) {
            b.append((char) c);
        }
        return b.toString();
    }

    String kindWritten(int s) {
        StringBuilder b = new StringBuilder();
        for (int c = kind(s, 0); c >= 0; c = kind(s, b.length())) {
            b.append((char) c);
        }
        return b.toString();
    }
}
