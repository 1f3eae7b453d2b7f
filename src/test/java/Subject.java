/**
 * An object under test, with texts for its tape. It counts its calls: what those behind the 512th
 * answer is free, so that a test must not make them.
 */
final class Subject {
    static final int NONE = -1, BAD = -2, NO = -3, FULL = -4, THROWS = Integer.MIN_VALUE;
    static final int CALLS_MOST = 512;

    private final MisspellHelp x = new MisspellHelp();
    private int calls = 0;

    private MisspellHelp call() {
        calls++;
        if (calls > CALLS_MOST) {
            throw new IllegalStateException("a test makes more than " + CALLS_MOST + " calls");
        }
        return x;
    }

    int calls() {
        return calls;
    }

    // ---- the calls of the document

    int feed(int n, long w) {
        return call().feed(n, w);
    }

    int word(int kind) {
        return call().word(kind);
    }

    int scope(int word, boolean on) {
        return call().scope(word, on);
    }

    int classes(int word, int bits) {
        return call().classes(word, bits);
    }

    int danger(int word, boolean on) {
        return call().danger(word, on);
    }

    int rule(int word) {
        return call().rule(word);
    }

    int token(int rule, int token) {
        return call().token(rule, token);
    }

    int setting(int what, int v) {
        return call().setting(what, v);
    }

    int near(int a, int b) {
        return call().near(a, b);
    }

    int line() {
        return call().line();
    }

    int at(int i) {
        return call().at(i);
    }

    int typed(int k, int what) {
        return call().typed(k, what);
    }

    int look() {
        return call().look();
    }

    int told(int what) {
        return call().told(what);
    }

    int proposal(int i, int what) {
        return call().proposal(i, what);
    }

    int fix() {
        return call().fix();
    }

    int choose(int i) {
        return call().choose(i);
    }

    int missing(int i) {
        return call().missing(i);
    }

    int hint(int i) {
        return call().hint(i);
    }

    int verbs(int thing, int i) {
        return call().verbs(thing, i);
    }

    int edits(int k, int word) {
        return call().edits(k, word);
    }

    /** THROWS where the call throws what the document names. */
    int cell(int i, int j) {
        return Check.cell(call(), i, j);
    }

    int forward() {
        return call().forward();
    }

    int pair(int i, int what) {
        return call().pair(i, what);
    }

    int learn(int i) {
        return call().learn(i);
    }

    int count(int what) {
        return call().count(what);
    }

    // ---- several calls at once

    /** Feeds the text, eight bytes a call: the last answer. */
    int feed(String text) {
        int answer = 0;
        for (int from = 0; from < text.length(); from += 8) {
            String part = text.substring(from, Math.min(text.length(), from + 8));
            answer = feed(part.length(), Check.pack(part));
        }
        return answer;
    }

    int tell(String name, int kind) {
        feed(name);
        return word(kind);
    }

    int tellRule(int verb, int... tokens) {
        int rule = rule(verb);
        for (int token : tokens) {
            token(rule, token);
        }
        return rule;
    }

    int say(String text) {
        feed(text);
        return line();
    }

    /** The verdict of a new line. */
    int looked(String text) {
        say(text);
        return look();
    }

    /** Has the first proposal for a line chosen some times. */
    void chooseOften(String text, int times) {
        for (int i = 0; i < times; i++) {
            say(text);
            choose(0);
        }
    }

    String text() {
        StringBuilder text = new StringBuilder();
        int size = count(5);
        for (int i = 0; i < size; i++) {
            text.append((char) at(i));
        }
        return text.toString();
    }
}
