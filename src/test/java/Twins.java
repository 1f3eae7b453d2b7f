import java.util.ArrayList;
import java.util.List;

/**
 * Holds two runs of calls against one another: after both, all that can be asked must be answered
 * alike. So a refused call is shown to change nothing: the run with it is as the run without it.
 *
 * Many questions change the object (there is no other way to ask what letters are near), so that
 * each round of them has objects of its own, made by the same calls.
 */
final class Twins {
    /** A run of calls. */
    interface Run {
        void on(Subject x);
    }

    /** One call, with its answer. */
    interface Call {
        int on(Subject x);
    }

    private interface Questions {
        void ask(Subject x, List<Integer> answers);
    }

    private static final int WORDS = 61, LINE = 92;

    private static final List<Questions> ROUNDS = List.of(
        Twins::askLine, Twins::askReading, Twins::askProposals, Twins::askNearest, Twins::askVerbs,
        Twins::askCells, Twins::askFix, Twins::askSettings, Twins::askTape, Twins::askKinds,
        Twins::askRules, Twins::askNames, Twins::askLines,
        (x, answers) -> askNear(x, answers, 0, 8), (x, answers) -> askNear(x, answers, 8, 26),
        (x, answers) -> askPairs(x, answers, 0), (x, answers) -> askPairs(x, answers, 10),
        (x, answers) -> askPairs(x, answers, 20), (x, answers) -> askPairs(x, answers, 30));

    private Twins() {
    }

    static Subject made(Run run) {
        Subject x = new Subject();
        run.on(x);
        return x;
    }

    /** Both runs leave objects that answer alike. */
    static void same(Check check, String name, Run one, Run other) {
        for (int round = 0; round < ROUNDS.size(); round++) {
            List<Integer> due = answers(ROUNDS.get(round), other);
            List<Integer> got = answers(ROUNDS.get(round), one);
            check.due(name + ": answers alike in round " + round, 1, due.equals(got) ? 1 : 0);
        }
    }

    /** The call gets its answer, and changes nothing, the tape included. */
    static void idle(Check check, String name, Run run, Call call, int due) {
        Run before = x -> {
            run.on(x);
            x.feed("ab");
        };
        check.due(name, due, call.on(made(before)));
        Run behind = x -> {
            before.on(x);
            call.on(x);
        };
        same(check, name, behind, before);
    }

    /** The call gets its answer with that on the tape, and changes nothing but for emptying it. */
    static void emptying(Check check, String name, Run run, String tape, Call call, int due) {
        Run fed = x -> {
            run.on(x);
            x.feed(tape);
        };
        check.due(name, due, call.on(made(fed)));
        Run behind = x -> {
            fed.on(x);
            call.on(x);
        };
        same(check, name, behind, run);
    }

    private static List<Integer> answers(Questions round, Run run) {
        List<Integer> answers = new ArrayList<>();
        round.ask(made(run), answers);
        return answers;
    }

    private static void askLine(Subject x, List<Integer> answers) {
        for (int what = 0; what <= 6; what++) answers.add(x.count(what));
        for (int i = 0; i <= LINE; i++) answers.add(x.at(i));
    }

    private static void askReading(Subject x, List<Integer> answers) {
        answers.add(x.look());
        for (int what = 0; what <= 8; what++) answers.add(x.told(what));
        for (int k = 0; k <= 10; k++) {
            for (int what = 0; what <= 2; what++) answers.add(x.typed(k, what));
        }
    }

    private static void askProposals(Subject x, List<Integer> answers) {
        int many = x.told(3);
        for (int i = 0; i < many; i++) {
            for (int what = 0; what <= 2; what++) answers.add(x.proposal(i, what));
        }
    }

    private static void askNearest(Subject x, List<Integer> answers) {
        for (int i = 0; i <= 4; i++) answers.add(x.missing(i));
        for (int i = 0; i < WORDS; i++) answers.add(x.hint(i));
    }

    private static void askVerbs(Subject x, List<Integer> answers) {
        for (int word = 0; word < WORDS; word++) {
            answers.add(x.verbs(word, 0));
            answers.add(x.verbs(word, 1));
        }
    }

    private static void askCells(Subject x, List<Integer> answers) {
        for (int i = 0; i <= 13; i++) {
            for (int j = 0; j <= 13; j++) answers.add(x.cell(i, j));
        }
    }

    private static void askFix(Subject x, List<Integer> answers) {
        answers.add(x.fix());
        answers.add(x.told(8));
        answers.add(x.choose(0));
        askLine(x, answers);
    }

    private static void askSettings(Subject x, List<Integer> answers) {
        for (int what = 0; what <= 8; what++) answers.add(x.setting(what, 1));
    }

    private static void askTape(Subject x, List<Integer> answers) {
        answers.add(x.line());
        for (int i = 0; i <= 80; i++) answers.add(x.at(i));
    }

    private static void askKinds(Subject x, List<Integer> answers) {
        for (int word = 0; word < WORDS; word++) {
            answers.add(x.scope(word, true));
            answers.add(x.classes(word, 255));
            answers.add(x.danger(word, true));
        }
    }

    /** How many tokens each rule has, and which words have rules. */
    private static void askRules(Subject x, List<Integer> answers) {
        for (int rule = 0; rule <= 40; rule++) answers.add(x.token(rule, -9));
        x.line();
        x.line();
        int verbs = x.told(7);
        answers.add(verbs);
        for (int i = 0; i < verbs; i++) answers.add(x.hint(i));
        for (int word = 0; word < WORDS; word++) answers.add(x.rule(word));
    }

    /** How far all words are from one that no world has. */
    private static void askNames(Subject x, List<Integer> answers) {
        x.line();
        x.say("abcdefmnop");
        for (int word = 0; word < WORDS; word++) answers.add(x.edits(0, word));
        x.say("take open burn lamp door with the key tkae a");
        for (int k = 0; k < 10; k++) answers.add(x.typed(k, 2));
    }

    private static void askLines(Subject x, List<Integer> answers) {
        x.line();
        for (String text : new String[] {"take", "open", "open door with", "burn lamp", "take lmap"}) {
            answers.add(x.say(text));
            answers.add(x.look());
            for (int what = 0; what <= 8; what++) answers.add(x.told(what));
            for (int i = 0; i <= 4; i++) answers.add(x.missing(i));
        }
    }

    private static void askNear(Subject x, List<Integer> answers, int from, int to) {
        for (int a = from; a < to; a++) {
            for (int b = a + 1; b < 26; b++) answers.add(x.near(a, b));
        }
    }

    private static void askPairs(Subject x, List<Integer> answers, int from) {
        x.setting(8, 1);
        answers.add(x.forward());
        for (int i = from; i < from + 10; i++) {
            int letters = x.pair(i, 2);
            for (int what = 0; what < 3 + letters; what++) answers.add(x.pair(i, what));
        }
    }
}
