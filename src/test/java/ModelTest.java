import java.util.ArrayList;
import java.util.List;
import java.util.Random;

/** Runs of calls by chance, the same ones each time, on the class and on the model of it. */
public final class ModelTest {
    private static final int OBJECTS = 1000, CALLS = 512;
    private static final String[] ALPHABETS = {"abc", "abcdefg", "aetlmoprn"};

    private final Check check;
    private final Random random;
    private final MisspellHelp x = new MisspellHelp();
    private final Model model = new Model();
    private final String letters;
    private final int longest;
    private final List<String> told = new ArrayList<>();
    private final List<List<String>> ofKind = List.of(new ArrayList<>(), new ArrayList<>(), new ArrayList<>(), new ArrayList<>());
    private final List<List<String>> ruleLines = new ArrayList<>();
    private final List<String> slips = new ArrayList<>();
    private int calls = 0;

    private ModelTest(Check check, int seed) {
        this.check = check;
        random = new Random(seed);
        letters = ALPHABETS[random.nextInt(ALPHABETS.length)];
        longest = 2 + random.nextInt(6);
    }

    public static void main(String[] args) {
        Check check = new Check();
        for (int seed = 1; seed <= OBJECTS && check.isClean(); seed++) {
            new ModelTest(check, seed).run();
        }
        check.end("ModelTest");
    }

    private void run() {
        int words = below(10) == 0 ? 62 : 5 + below(16);
        int rules = below(10) == 0 ? 41 : 2 + below(7);
        for (int i = 0; i < 3 * words && model.count(0) < words && calls < CALLS; i++) tellWord();
        for (int i = 0; i < rules && calls < CALLS; i++) tellRule();
        if (below(2) == 0) set(6, 1);
        if (below(2) == 0) set(8, 1 + below(2));
        if (below(2) == 0) set(5, 4 + below(57));
        while (calls < CALLS) {
            int dice = below(40);
            if (dice < 6) sayLine();
            else if (dice < 8) tell();
            else if (dice < 9) tellWord();
            else ask();
        }
    }

    private void set(int what, int v) {
        due("setting " + what, model.setting(what, v), x.setting(what, v));
    }

    private void due(String call, int want, int got) {
        calls++;
        check.due("call " + calls + ": " + call, want, got);
    }

    private int below(int n) {
        return random.nextInt(n);
    }

    /** Mostly of 0 .. most - 1, now and then next to that or far from it. */
    private int index(int most) {
        int dice = below(30);
        if (dice == 0) return -1;
        if (dice == 1) return most;
        if (dice == 2) return below(2) == 0 ? Integer.MAX_VALUE : Integer.MIN_VALUE;
        return most < 1 ? 0 : below(most);
    }

    private String newName() {
        int length = below(25) == 0 ? below(15) : 1 + below(longest);
        StringBuilder name = new StringBuilder();
        for (int i = 0; i < length; i++) name.append(letters.charAt(below(letters.length())));
        return name.toString();
    }

    private void feed(String text) {
        int from = 0;
        while (from < text.length()) {
            int n = Math.min(text.length() - from, 1 + below(8));
            long w = Check.pack(text.substring(from, from + n)) | (n < 8 && below(2) == 0 ? random.nextLong() << 8 * n : 0);
            due("feed(" + n + ", " + w + ")", model.feed(n, w), x.feed(n, w));
            from += n;
        }
    }

    private void tellWord() {
        String name = newName();
        if (below(40) == 0) name = name + "A";
        feed(name);
        int kind = below(30) == 0 ? index(4) : new int[] {0, 0, 1, 1, 1, 2, 3}[below(7)];
        int word = model.word(kind);
        due("word(" + kind + ") " + name, word, x.word(kind));
        if (word < 0) return;
        told.add(name);
        ofKind.get(kind).add(name);
        if (kind != 1) return;
        if (below(6) != 0) due("scope", model.scope(word, true), x.scope(word, true));
        int bits = below(8);
        due("classes", model.classes(word, bits), x.classes(word, bits));
    }

    /** A rule, and words that a line for it could be made of. */
    private void tellRule() {
        int verb = numberOfKind(0);
        int rule = model.rule(verb);
        due("rule", rule, x.rule(verb));
        if (rule < 0) return;
        List<String> line = new ArrayList<>(List.of(oneOf(ofKind.get(0))));
        for (String name : ofKind.get(0)) {
            if (numberOf(name) == verb) line.set(0, name);
        }
        int many = below(5);
        for (int t = 0; t < many; t++) {
            boolean link = below(3) == 0 && !ofKind.get(2).isEmpty();
            int token = link ? numberOfKind(2) : -1 - below(4);
            due("token", model.token(rule, token), x.token(rule, token));
            line.add(link ? told.get(token) : oneOf(ofKind.get(1)));
        }
        ruleLines.add(line);
    }

    private String oneOf(List<String> names) {
        return names.isEmpty() ? newName() : names.get(below(names.size()));
    }

    private int numberOf(String name) {
        return told.indexOf(name);
    }

    private int numberOfKind(int kind) {
        return ofKind.get(kind).isEmpty() ? index(model.count(0)) : numberOf(oneOf(ofKind.get(kind)));
    }

    private void tell() {
        int word = below(2) == 0 ? index(model.count(0)) : numberOfKind(below(3));
        boolean on = below(4) != 0;
        switch (below(9)) {
            case 0: case 1: due("scope", model.scope(word, on), x.scope(word, on)); break;
            case 2: int bits = below(20) == 0 ? index(256) : below(256) & below(256);
                due("classes", model.classes(word, bits), x.classes(word, bits)); break;
            case 3: due("danger", model.danger(word, !on), x.danger(word, !on)); break;
            case 4: due("rule", model.rule(word), x.rule(word)); break;
            case 5: case 6: int token = below(2) == 0 ? -1 - below(below(2) == 0 ? 3 : 10) : word;
                int rule = index(model.count(1));
                due("token", model.token(rule, token), x.token(rule, token)); break;
            case 7: int what = index(9);
                int v = what == 5 ? index(below(2) == 0 ? 61 : 12) : what == 7 ? (below(4) == 0 ? 0 : 1) : index(10);
                due("setting", model.setting(what, v), x.setting(what, v)); break;
            default: int a = below(9) == 0 ? index(26) : letters.charAt(below(letters.length())) - 'a';
                int b = below(9) == 0 ? index(26) : letters.charAt(below(letters.length())) - 'a';
                due("near", model.near(a, b), x.near(a, b)); break;
        }
    }

    /** The name with a slip; often one of this run's earlier slips, so that some come again and again. */
    private String slipped(String name) {
        if (below(3) != 0 && !slips.isEmpty()) return oneOf(slips);
        StringBuilder word = new StringBuilder(name);
        int place = name.isEmpty() ? 0 : below(word.length());
        char letter = letters.charAt(below(letters.length()));
        switch (name.isEmpty() ? 1 : below(4)) {
            case 0: word.deleteCharAt(place); break;
            case 1: word.insert(place, letter); break;
            case 2: word.setCharAt(place, letter); break;
            default: if (place > 0) word.insert(place - 1, word.charAt(place)).deleteCharAt(place + 1);
        }
        if (slips.size() < 12 || below(4) == 0) slips.add(word.toString());
        return word.toString();
    }

    private List<String> lineWords() {
        List<String> line = new ArrayList<>();
        if (below(5) != 0 && !ruleLines.isEmpty()) {
            line.addAll(ruleLines.get(below(ruleLines.size())));
            if (below(4) == 0) line.remove(below(line.size()));
            if (below(4) == 0) line.add(below(line.size() + 1), oneOf(told));
            for (int i = 1; i < line.size(); i++) {
                if (below(4) == 0) line.set(i, oneOf(ofKind.get(1)));
            }
        } else {
            int many = below(5) == 0 ? below(13) : 1 + below(4);
            for (int i = 0; i < many; i++) line.add(oneOf(told));
        }
        int wrong = below(2 * line.size() + 2);
        if (wrong < line.size()) line.set(wrong, slipped(line.get(wrong)));
        if (below(4) == 0) line.add(below(line.size() + 1), oneOf(ofKind.get(3)));
        return line;
    }

    private void sayLine() {
        StringBuilder text = new StringBuilder();
        for (String word : lineWords()) {
            text.append(below(9) == 0 ? word.toUpperCase(java.util.Locale.ROOT) : word);
            text.append(new String[] {" ", ", ", "\u00e4", "  ", "1"}[below(5)]);
        }
        if (below(30) == 0) text.append("ab".repeat(below(40)));
        feed(text.toString());
        due("line() " + text, model.line(), x.line());
        due("look", model.look(), x.look());
        if (below(3) == 0) due("fix", model.fix(), x.fix());
        if (below(3) == 0) {
            int i = index(Math.min(2, model.told(3)));
            due("choose", model.choose(i), x.choose(i));
        }
    }

    private void ask() {
        int k = index(model.count(6));
        switch (below(17)) {
            case 0: int i = index(model.count(5)); due("at", model.at(i), x.at(i)); break;
            case 1: int what = index(3); due("typed", model.typed(k, what), x.typed(k, what)); break;
            case 2: due("look", model.look(), x.look()); break;
            case 3: case 4: what = index(9); due("told " + what, model.told(what), x.told(what)); break;
            case 5: i = index(model.told(3)); what = index(3);
                due("proposal", model.proposal(i, what), x.proposal(i, what)); break;
            case 6: due("fix", model.fix(), x.fix()); break;
            case 7: case 8: i = index(model.told(3)); due("choose", model.choose(i), x.choose(i)); break;
            case 9: i = index(model.told(5)); due("missing", model.missing(i), x.missing(i)); break;
            case 10: i = index(model.told(7)); due("hint", model.hint(i), x.hint(i)); break;
            case 11: int thing = below(4) == 0 ? index(model.count(0)) : numberOfKind(1); i = index(4);
                due("verbs", model.verbs(thing, i), x.verbs(thing, i)); break;
            case 12: int word = index(model.count(0)); due("edits", model.edits(k, word), x.edits(k, word)); break;
            case 13: i = index(8); int j = index(8); due("cell", model.cell(i, j), Check.cell(x, i, j)); break;
            case 14: i = index(model.forward()); what = index(8);
                due("forward", model.forward(), x.forward());
                due("pair", model.pair(i, what), x.pair(i, what)); break;
            case 15: i = index(model.forward()); due("learn", model.learn(i), x.learn(i)); break;
            default: what = index(7); due("count", model.count(what), x.count(what)); break;
        }
    }
}
