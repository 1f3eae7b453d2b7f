import java.util.ArrayList;
import java.util.Comparator;
import java.util.HashMap;
import java.util.List;
import java.util.Map;

/** The document written a second time, by texts, lists and trying all ways, to be held against. */
final class Model {
    static final int NONE = -1, BAD = -2, NO = -3, FULL = -4, THROWS = Integer.MIN_VALUE;

    static final class Word {
        int number, kind, bits;
        boolean scope, danger;
        final List<String> names = new ArrayList<>();
    }

    static final class Rule {
        int number;
        Word verb;
        final List<Integer> tokens = new ArrayList<>();
    }

    static final class Pair {
        String typed;
        Word word;
        int often;
    }

    record Proposal(Word word, int distance, boolean fits) { }

    record Near(Rule rule, List<Integer> missing, int extra) { }

    private final List<Word> words = new ArrayList<>();
    private final List<Rule> rules = new ArrayList<>();
    private final List<Pair> log = new ArrayList<>();
    private final int[] settings = {2, 2, 3, 2, 2, 4, 0, 1, 3};
    private final boolean[][] near = new boolean[26][26];
    private String tape = "", line = "", editsTyped = null, editsName = null;
    private int[] editsCosts;
    private boolean[][] editsNear;
    private int note = NONE;

    // ---- what is known

    int feed(int n, long w) {
        if (n < 1 || n > 8) return BAD;
        if (tape.length() + n > 80) return FULL;
        for (int i = n - 1; i >= 0; i--) tape += (char) (w >> 8 * i & 255);
        return tape.length();
    }

    int word(int kind) {
        String name = tape;
        tape = "";
        if (kind < 0 || kind > 3 || !name.matches("[a-z]{1,12}")) return BAD;
        if (named(name) != null) return NO;
        if (words.size() == 60 || countNames() == 90) return FULL;
        Word word = new Word();
        word.number = words.size();
        word.kind = kind;
        word.scope = kind != 1;
        word.names.add(name);
        words.add(word);
        return word.number;
    }

    int scope(int word, boolean on) {
        Word w = of(word, 1);
        if (w == null) return BAD;
        int was = w.scope ? 1 : 0;
        w.scope = on;
        return was;
    }

    int classes(int word, int bits) {
        Word w = of(word, 1);
        if (w == null || (bits & ~255) != 0) return BAD;
        int was = w.bits;
        w.bits = bits;
        return was;
    }

    int danger(int word, boolean on) {
        Word w = of(word, 0);
        if (w == null) return BAD;
        int was = w.danger ? 1 : 0;
        w.danger = on;
        return was;
    }

    int rule(int word) {
        if (of(word, 0) == null) return BAD;
        if (rules.size() == 40) return FULL;
        Rule rule = new Rule();
        rule.number = rules.size();
        rule.verb = of(word, 0);
        rules.add(rule);
        return rule.number;
    }

    int token(int rule, int token) {
        if (rule < 0 || rule >= rules.size()) return BAD;
        if (token < -9 || token >= 0 && of(token, 2) == null) return BAD;
        List<Integer> tokens = rules.get(rule).tokens;
        if (tokens.size() == 4) return FULL;
        tokens.add(token);
        return tokens.size();
    }

    int setting(int what, int v) {
        if (what < 0 || what > 8) return BAD;
        boolean may = what == 5 ? v >= 0 && v <= 60 : what == 6 || what == 7 ? v == 0 || v == 1 : v >= 1 && v <= 9;
        if (!may) return BAD;
        int was = settings[what];
        settings[what] = v;
        return was;
    }

    int near(int a, int b) {
        if (a < 0 || a > 25 || b < 0 || b > 25 || a == b) return BAD;
        if (near[a][b]) return 0;
        near[a][b] = true;
        near[b][a] = true;
        return 1;
    }

    // ---- a line

    int line() {
        String text = tape;
        tape = "";
        int typed = typedOf(text).size();
        if (typed > 10) return FULL;
        line = text;
        note = NONE;
        return typed;
    }

    int at(int i) {
        return i >= 0 && i < line.length() ? line.charAt(i) : NONE;
    }

    int typed(int k, int what) {
        List<int[]> typed = typedOf(line);
        if (k < 0 || k >= typed.size() || what < 0 || what > 2) return BAD;
        if (what < 2) return what == 0 ? typed.get(k)[0] : typed.get(k)[1] - typed.get(k)[0];
        Word word = named(spelled(k));
        return word == null ? NONE : word.number;
    }

    int look() {
        List<Integer> meant = meant();
        List<Word> is = meantWords(line);
        if (meant.isEmpty()) return 1;
        long unknown = is.stream().filter(w -> w == null).count();
        if (unknown > 0) return unknown > 1 ? 2 : 3;
        if (is.get(0).kind != 0) return 4;
        if (is.stream().anyMatch(w -> !w.scope)) return 5;
        return fitting(is) != null ? 0 : 6;
    }

    int told(int what) {
        Near nearest = nearest();
        switch (what) {
            case 0: return meant().size();
            case 1: return culprit();
            case 2: return look() == 0 ? fitting(meantWords(line)).number : NONE;
            case 3: return proposals().size();
            case 4: return nearest == null ? NONE : nearest.rule.number;
            case 5: return nearest == null ? 0 : nearest.missing.size();
            case 6: return nearest == null ? 0 : nearest.extra;
            case 7: return hints().size();
            case 8: return note;
            default: return BAD;
        }
    }

    int proposal(int i, int what) {
        List<Proposal> all = proposals();
        if (i < 0 || i >= all.size() || what < 0 || what > 2) return BAD;
        Proposal p = all.get(i);
        return what == 0 ? p.word.number : what == 1 ? p.distance : p.fits ? 1 : 0;
    }

    int fix() {
        if (look() != 3) return NO;
        List<Proposal> all = proposals();
        if (all.isEmpty()) return 0;
        Proposal p = all.get(0);
        if (settings[6] == 0 || !p.fits || all.size() > 1 && all.get(1).distance == p.distance) return 2;
        if (meantWords(lineWith(p.word)).get(0).danger) return 2;
        int k = culprit();
        accept(p.word);
        note = k;
        return 1;
    }

    int choose(int i) {
        List<Proposal> all = proposals();
        if (i < 0 || i >= all.size()) return BAD;
        accept(all.get(i).word);
        note = NONE;
        return look();
    }

    int missing(int i) {
        Near nearest = nearest();
        return nearest == null || i < 0 || i >= nearest.missing.size() ? BAD : nearest.missing.get(i);
    }

    int hint(int i) {
        List<Integer> hints = hints();
        return i < 0 || i >= hints.size() ? BAD : hints.get(i);
    }

    int verbs(int thing, int i) {
        Word t = of(thing, 1);
        if (t == null) return BAD;
        List<Integer> found = new ArrayList<>();
        for (Word verb : words) {
            if (rules.stream().anyMatch(r -> r.verb == verb && r.tokens.stream().anyMatch(k -> isAs(t, k)))) {
                found.add(verb.number);
            }
        }
        return i < 0 || i >= found.size() ? NONE : found.get(i);
    }

    int edits(int k, int word) {
        if (k < 0 || k >= typedOf(line).size() || word < 0 || word >= words.size()) return BAD;
        editsTyped = spelled(k);
        editsName = nearestName(editsTyped, words.get(word));
        editsCosts = settings.clone();
        editsNear = new boolean[26][];
        for (int a = 0; a < 26; a++) editsNear[a] = near[a].clone();
        return distance(editsTyped, editsName);
    }

    int cell(int i, int j) {
        if (editsTyped == null || i < 0 || j < 0 || i > editsTyped.length() || j > editsName.length()) return THROWS;
        return cost(editsTyped.substring(0, i), editsName.substring(0, j), editsCosts, editsNear, new HashMap<>());
    }

    // ---- learning

    int forward() {
        return ahead().size();
    }

    int pair(int i, int what) {
        List<Pair> ahead = ahead();
        if (i < 0 || i >= ahead.size() || what < 0) return BAD;
        Pair p = ahead.get(i);
        if (what < 3) return what == 0 ? p.word.number : what == 1 ? p.often : p.typed.length();
        return what - 3 < p.typed.length() ? p.typed.charAt(what - 3) - 'a' : BAD;
    }

    int learn(int i) {
        List<Pair> ahead = ahead();
        if (i < 0 || i >= ahead.size()) return BAD;
        Pair p = ahead.get(i);
        if (named(p.typed) != null) return NO;
        if (countNames() == 90) return FULL;
        p.word.names.add(p.typed);
        log.removeIf(other -> other.typed.equals(p.typed));
        return p.word.names.size();
    }

    int count(int what) {
        int[] counts = {words.size(), rules.size(), countNames(), log.size(), tape.length(), line.length(), typedOf(line).size()};
        return what < 0 || what > 6 ? BAD : counts[what];
    }

    // ---- terms

    private Word of(int word, int kind) {
        return word >= 0 && word < words.size() && words.get(word).kind == kind ? words.get(word) : null;
    }

    private int countNames() {
        return words.stream().mapToInt(w -> w.names.size()).sum();
    }

    private Word named(String name) {
        return words.stream().filter(w -> w.names.contains(name)).findFirst().orElse(null);
    }

    private static boolean isAs(Word word, int token) {
        return token >= 0 ? word.number == token : word.kind == 1 && (token == -1 || (word.bits & 1 << -2 - token) != 0);
    }

    /** First and last place of each typed word. */
    private static List<int[]> typedOf(String text) {
        List<int[]> found = new ArrayList<>();
        var matcher = java.util.regex.Pattern.compile("[A-Za-z]+").matcher(text);
        while (matcher.find()) found.add(new int[] {matcher.start(), matcher.end()});
        return found;
    }

    private static String spelledIn(String text, int k) {
        int[] place = typedOf(text).get(k);
        return text.substring(place[0], place[1]).toLowerCase(java.util.Locale.ROOT);
    }

    private String spelled(int k) {
        return spelledIn(line, k);
    }

    private List<Integer> meant() {
        List<Integer> meant = new ArrayList<>();
        for (int k = 0; k < typedOf(line).size(); k++) {
            Word word = named(spelled(k));
            if (word == null || word.kind != 3) meant.add(k);
        }
        return meant;
    }

    private List<Word> meantWords(String text) {
        List<Word> found = new ArrayList<>();
        for (int k = 0; k < typedOf(text).size(); k++) {
            Word word = named(spelledIn(text, k));
            if (word == null || word.kind != 3) found.add(word);
        }
        return found;
    }

    private int culprit() {
        List<Word> is = meantWords(line);
        int verdict = look();
        for (int m = 0; m < is.size(); m++) {
            boolean found = verdict == 2 || verdict == 3 ? is.get(m) == null
                : verdict == 4 || verdict == 5 && is.get(m).kind == 1 && !is.get(m).scope;
            if (found) return meant().get(m);
        }
        return NONE;
    }

    private Rule fitting(List<Word> is) {
        for (Rule rule : rules) {
            boolean fits = !is.isEmpty() && is.size() == rule.tokens.size() + 1 && rule.verb == is.get(0);
            for (int i = 0; fits && i < is.size(); i++) {
                fits = is.get(i) != null && is.get(i).scope && (i == 0 || isAs(is.get(i), rule.tokens.get(i - 1)));
            }
            if (fits) return rule;
        }
        return null;
    }

    private int distance(String typed, String name) {
        return cost(typed, name, settings, near, new HashMap<>());
    }

    /** The least cost by trying each act on the first letters that are left. */
    private static int cost(String typed, String name, int[] costs, boolean[][] near, Map<String, Integer> known) {
        if (typed.isEmpty()) return name.length() * costs[1];
        if (name.isEmpty()) return typed.length() * costs[0];
        String key = typed.length() + "," + name.length();
        if (known.containsKey(key)) return known.get(key);
        char a = typed.charAt(0), b = name.charAt(0);
        int least = costs[0] + cost(typed.substring(1), name, costs, near, known);
        least = Math.min(least, costs[1] + cost(typed, name.substring(1), costs, near, known));
        int both = cost(typed.substring(1), name.substring(1), costs, near, known);
        if (a == b) {
            least = Math.min(least, both);
        } else {
            least = Math.min(least, costs[2] + both);
            if (near[a - 'a'][b - 'a']) least = Math.min(least, costs[3] + both);
            if (typed.length() > 1 && name.length() > 1 && name.startsWith("" + typed.charAt(1) + a)) {
                least = Math.min(least, costs[4] + cost(typed.substring(2), name.substring(2), costs, near, known));
            }
        }
        known.put(key, least);
        return least;
    }

    private String nearestName(String typed, Word word) {
        String best = word.names.get(0);
        for (String name : word.names) {
            if (distance(typed, name) < distance(typed, best)) best = name;
        }
        return best;
    }

    private List<Proposal> proposals() {
        List<Proposal> found = new ArrayList<>();
        if (look() != 3 || settings[7] == 0) return found;
        String typed = spelled(culprit());
        for (Word word : words) {
            if (word.kind == 3 || !word.scope) continue;
            String name = nearestName(typed, word);
            int distance = distance(typed, name);
            if (distance > settings[5] || distance >= typed.length() * settings[0] + name.length() * settings[1]) continue;
            found.add(new Proposal(word, distance, fitting(meantWords(lineWith(word))) != null));
        }
        found.sort(Comparator.comparingInt((Proposal p) -> p.distance).thenComparing(p -> p.fits ? 0 : 1)
            .thenComparing(p -> p.word.number));
        return found;
    }

    private String lineWith(Word word) {
        int[] place = typedOf(line).get(culprit());
        return line.substring(0, place[0]) + word.names.get(0) + line.substring(place[1]);
    }

    private void accept(Word word) {
        String typed = spelled(culprit());
        line = lineWith(word);
        Pair pair = log.stream().filter(p -> p.word == word && p.typed.equals(typed)).findFirst().orElse(null);
        if (pair == null && log.size() < 40 && typed.length() <= 12) {
            pair = new Pair();
            pair.typed = typed;
            pair.word = word;
            log.add(pair);
        }
        if (pair != null) pair.often++;
    }

    private Near nearest() {
        if (look() != 0 && look() != 6) return null;
        List<Word> is = meantWords(line);
        Near best = null;
        for (Rule rule : rules) {
            if (rule.verb != is.get(0)) continue;
            List<Integer> way = bestWay(rule, is.subList(1, is.size()), 0, 0);
            List<Integer> missing = new ArrayList<>();
            for (int t = 0; t < rule.tokens.size(); t++) {
                boolean paired = false;
                for (int p = 0; p < way.size(); p += 2) paired |= way.get(p) == t;
                if (!paired) missing.add(rule.tokens.get(t));
            }
            Near now = new Near(rule, missing, is.size() - 1 - way.size() / 2);
            if (best == null || missing.size() + now.extra < best.missing.size() + best.extra) best = now;
        }
        return best;
    }

    /** Of all ways to pair tokens and words the best one: token, word, token, word .. */
    private static List<Integer> bestWay(Rule rule, List<Word> behind, int fromToken, int fromWord) {
        List<Integer> best = new ArrayList<>();
        for (int t = fromToken; t < rule.tokens.size(); t++) {
            for (int w = fromWord; w < behind.size(); w++) {
                if (!isAs(behind.get(w), rule.tokens.get(t))) continue;
                List<Integer> way = new ArrayList<>(List.of(t, w));
                way.addAll(bestWay(rule, behind, t + 1, w + 1));
                if (way.size() > best.size() || way.size() == best.size() && isEarlier(way, best)) best = way;
            }
        }
        return best;
    }

    private static boolean isEarlier(List<Integer> a, List<Integer> b) {
        for (int i = 0; i < a.size(); i++) {
            if (!a.get(i).equals(b.get(i))) return a.get(i) < b.get(i);
        }
        return false;
    }

    private List<Integer> hints() {
        List<Word> is = meantWords(line);
        boolean ready = is.stream().allMatch(w -> w != null && w.scope) && (is.isEmpty() || is.get(0).kind == 0);
        List<Integer> hints = new ArrayList<>();
        for (Word word : words) {
            if (!ready || word.kind == 3 || !word.scope) continue;
            boolean could = false;
            for (Rule rule : rules) could |= is.isEmpty() ? rule.verb == word : couldFollow(rule, is, word);
            if (could) hints.add(word.number);
        }
        return hints;
    }

    private static boolean couldFollow(Rule rule, List<Word> is, Word word) {
        int k = is.size() - 1;
        if (rule.verb != is.get(0) || rule.tokens.size() <= k) return false;
        for (int i = 0; i < k; i++) {
            if (!isAs(is.get(i + 1), rule.tokens.get(i))) return false;
        }
        return isAs(word, rule.tokens.get(k));
    }

    private List<Pair> ahead() {
        return log.stream().filter(p -> p.often >= settings[8]).toList();
    }
}
