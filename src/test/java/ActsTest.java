import java.util.ArrayList;
import java.util.HashMap;
import java.util.List;
import java.util.Map;

/**
 * The distances of all short words of three letters. What is due comes from the acts alone: all
 * rows of acts on the letters, in their order, are done, and each text that they make gets the
 * least cost of those that make it.
 */
public final class ActsTest {
    private static final String LETTERS = "abc";
    private static final int LONGEST = 4, NAMES_AT_ONCE = 60, LINES_AT_ONCE = 6;
    /** To leave out, put in, change, change to a near one, swap; then whether a and b are near. */
    private static final int[][] COSTS = {
        {2, 2, 3, 2, 2, 0}, {2, 2, 3, 2, 2, 1}, {1, 1, 1, 1, 1, 1}, {1, 3, 9, 2, 1, 0},
        {4, 1, 2, 6, 9, 1}, {9, 9, 5, 1, 2, 1}, {3, 2, 9, 9, 1, 0}, {2, 5, 6, 3, 7, 1}};

    private static final Check check = new Check();

    private final int[] costs;
    private final Map<String, Map<String, Integer>> made = new HashMap<>();

    private ActsTest(int[] costs) {
        this.costs = costs;
    }

    public static void main(String[] args) {
        List<String> words = words();
        for (int[] costs : COSTS) {
            ActsTest test = new ActsTest(costs);
            for (int name = 0; name < words.size(); name += NAMES_AT_ONCE) {
                for (int line = 0; line < words.size(); line += LINES_AT_ONCE) {
                    test.hold(part(words, line, LINES_AT_ONCE), part(words, name, NAMES_AT_ONCE));
                }
            }
            test.holdCells(words);
        }
        check.end("ActsTest");
    }

    private static List<String> part(List<String> words, int from, int many) {
        return words.subList(from, Math.min(words.size(), from + many));
    }

    /** All of 1 to LONGEST letters. */
    private static List<String> words() {
        List<String> words = new ArrayList<>(List.of(""));
        for (int i = 0; i < words.size(); i++) {
            if (words.get(i).length() < LONGEST) {
                for (char letter : LETTERS.toCharArray()) {
                    words.add(words.get(i) + letter);
                }
            }
        }
        return new ArrayList<>(words.subList(1, words.size()));
    }

    private Subject made(List<String> names) {
        Subject x = new Subject();
        for (int what = 0; what <= 4; what++) {
            x.setting(what, costs[what]);
        }
        if (costs[5] == 1) {
            x.near(0, 1);
        }
        for (int i = 0; i < names.size(); i++) {
            x.tell(names.get(i), i % 4);
        }
        return x;
    }

    private void hold(List<String> typed, List<String> names) {
        Subject x = made(names);
        for (String one : typed) {
            x.say(one);
            for (int word = 0; word < names.size(); word++) {
                check.due("edits from " + one + " to " + names.get(word), due(one, names.get(word)), x.edits(0, word));
            }
        }
    }

    /** Each cell for some words of the most letters, taken from all over. */
    private void holdCells(List<String> words) {
        for (int i = words.size() - 1; i > words.size() / 2; i -= 7) {
            String typed = words.get(i);
            String name = words.get(words.size() - 1 - (i * 11) % (words.size() / 2));
            Subject x = made(List.of(name));
            x.say(typed);
            x.edits(0, 0);
            for (int a = 0; a <= typed.length(); a++) {
                for (int b = 0; b <= name.length(); b++) {
                    check.due("cell " + a + ", " + b + " of " + typed + " and " + name,
                        due(typed.substring(0, a), name.substring(0, b)), x.cell(a, b));
                }
            }
        }
    }

    private int due(String typed, String name) {
        return made.computeIfAbsent(typed, this::madeOf).get(name);
    }

    /** All texts of up to LONGEST letters that acts make of what was typed, with their costs. */
    private Map<String, Integer> madeOf(String typed) {
        Map<String, Integer> found = new HashMap<>();
        act(typed, 0, "", 0, found);
        return found;
    }

    /** Does each act that may come next; "so far" is what the acts before have made. */
    private void act(String typed, int i, String soFar, int cost, Map<String, Integer> found) {
        if (soFar.length() > LONGEST) {
            return;
        }
        if (i == typed.length()) {
            found.merge(soFar, cost, Math::min);
        }
        for (char letter : LETTERS.toCharArray()) {
            act(typed, i, soFar + letter, cost + costs[1], found);
        }
        if (i == typed.length()) {
            return;
        }
        char first = typed.charAt(i);
        act(typed, i + 1, soFar, cost + costs[0], found);
        act(typed, i + 1, soFar + first, cost, found);
        for (char letter : LETTERS.toCharArray()) {
            if (letter != first) {
                act(typed, i + 1, soFar + letter, cost + costs[2], found);
                if (costs[5] == 1 && letter != 'c' && first != 'c') {
                    act(typed, i + 1, soFar + letter, cost + costs[3], found);
                }
            }
        }
        if (i + 1 < typed.length() && typed.charAt(i + 1) != first) {
            act(typed, i + 2, soFar + typed.charAt(i + 1) + first, cost + costs[4], found);
        }
    }
}
