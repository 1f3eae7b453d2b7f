/** Promises 1 to 10 at their bounds: the last that is taken, the first that is refused. */
public final class BoundsOfKnownTest {
    private static final int NONE = Subject.NONE, BAD = Subject.BAD, NO = Subject.NO, FULL = Subject.FULL;
    private static final int LEAST = Integer.MIN_VALUE, MOST = Integer.MAX_VALUE;
    private static final int VERB = Worlds.VERB, THING = Worlds.THING, LINK = Worlds.LINK;
    private static final int TAKE = Worlds.TAKE, OPEN = Worlds.OPEN, BURN = Worlds.BURN, LAMP = Worlds.LAMP;
    private static final int DOOR = Worlds.DOOR, WITH = Worlds.WITH, THE = Worlds.THE, KEY = Worlds.KEY;
    private static final int[] FIRST = {2, 2, 3, 2, 2, 4, 0, 1, 3};
    private static final int[] LOW = {1, 1, 1, 1, 1, 0, 0, 0, 1};
    private static final int[] HIGH = {9, 9, 9, 9, 9, 60, 1, 1, 9};

    private static final Check check = new Check();

    public static void main(String[] args) {
        check.runTests(BoundsOfKnownTest.class);
        check.end("BoundsOfKnownTest");
    }

    private static void due(String call, int want, int got) {
        check.due(call, want, got);
    }

    /** Refused in a world with a note, and in one with proposals; nothing is changed by it. */
    private static void refused(String name, Twins.Call call, int due) {
        Twins.idle(check, name, Worlds::fixed, call, due);
        Twins.idle(check, name, Worlds::asking, call, due);
    }

    private static void refusedIn(Twins.Run world, String name, Twins.Call call, int due) {
        Twins.idle(check, name, world, call, due);
    }

    /** No word at all, whatever the world. */
    private static int[] noWords(int words) {
        return new int[] {-1, words, words + 1, 59, 60, 255, LEAST, MOST};
    }

    // ---- what it is

    static void whatItIs512CallsAreAnswered() {
        Subject x = Twins.made(Worlds::small);
        x.say("burn lmap");
        while (x.calls() < Subject.CALLS_MOST - 1) {
            due("call " + x.calls(), 3, x.look());
        }
        due("the 512th call", 0, x.choose(0));
    }

    static void whatItIs512CallsMayAllChangeTheObject() {
        Subject x = new Subject();
        x.tell("take", VERB);
        for (int i = 0; i < 170; i++) {
            due("feed " + i, 4, x.feed("tkae"));
            due("line " + i, 1, x.line());
            due("choose " + i, 6, x.choose(0));
        }
        due("512 calls", Subject.CALLS_MOST, x.calls());
    }

    static void whatItIs512CallsMayAllThrow() {
        Subject x = new Subject();
        for (int i = 0; i < Subject.CALLS_MOST; i++) {
            due("cell " + i, Subject.THROWS, x.cell(0, 0));
        }
    }

    // ---- promise 1: a new object

    static void promise01NewObjectHasNoWordsRulesOrLine() {
        Subject x = new Subject();
        for (int what = 0; what <= 6; what++) {
            due("count " + what, 0, x.count(what));
        }
        int[] told = {0, NONE, NONE, 0, NONE, 0, 0, 0, NONE};
        for (int what = 0; what < told.length; what++) {
            due("told " + what, told[what], x.told(what));
        }
        due("look", 1, x.look());
        due("at", NONE, x.at(0));
        due("forward", 0, x.forward());
        due("cell", Subject.THROWS, x.cell(0, 0));
        due("line", 0, x.line());
    }

    static void promise01NewObjectRefusesWhatNeedsThem() {
        Twins.Run nothing = Worlds::nothing;
        refusedIn(nothing, "scope", x -> x.scope(0, true), BAD);
        refusedIn(nothing, "classes", x -> x.classes(0, 0), BAD);
        refusedIn(nothing, "danger", x -> x.danger(0, true), BAD);
        refusedIn(nothing, "rule", x -> x.rule(0), BAD);
        refusedIn(nothing, "token", x -> x.token(0, -1), BAD);
        refusedIn(nothing, "typed", x -> x.typed(0, 0), BAD);
        refusedIn(nothing, "proposal", x -> x.proposal(0, 0), BAD);
        refusedIn(nothing, "fix", x -> x.fix(), NO);
        refusedIn(nothing, "choose", x -> x.choose(0), BAD);
        refusedIn(nothing, "missing", x -> x.missing(0), BAD);
        refusedIn(nothing, "hint", x -> x.hint(0), BAD);
        refusedIn(nothing, "verbs", x -> x.verbs(0, 0), BAD);
        refusedIn(nothing, "edits", x -> x.edits(0, 0), BAD);
        refusedIn(nothing, "pair", x -> x.pair(0, 0), BAD);
        refusedIn(nothing, "learn", x -> x.learn(0), BAD);
        Twins.emptying(check, "word", nothing, "", x -> x.word(VERB), BAD);
    }

    static void promise01SettingsOfANewObject() {
        Subject x = new Subject();
        for (int what = 0; what < FIRST.length; what++) {
            due("setting " + what, FIRST[what], x.setting(what, HIGH[what]));
        }
    }

    static void promise01SettingsOfANewObjectAreAtWork() {
        Subject x = Twins.made(Worlds::small);
        x.near(0, 18);
        x.say("lampp lmp lxmp lsmp lmap");
        int[] costs = {2, 2, 3, 2, 2};
        for (int k = 0; k < costs.length; k++) {
            due("setting " + k, costs[k], x.edits(k, LAMP));
        }
        x.say("take lamppp");
        due("4 is proposed, setting 7 at 1", 1, x.told(3));
        due("setting 6 at 0", 2, x.fix());
        x.chooseOften("take lmap", 2);
        due("not yet forward", 0, x.forward());
        x.chooseOften("take lmap", 1);
        due("forward by three", 1, x.forward());
    }

    static void promise01NoLettersAreNearInANewObject() {
        Subject x = new Subject();
        for (int a = 0; a < 26; a++) {
            for (int b = a + 1; b < 26; b++) {
                due("near " + a + " " + b, 1, x.near(a, b));
            }
        }
    }

    static void promise01ObjectsAreApart() {
        Subject one = Twins.made(Worlds::asking);
        promise01NewObjectHasNoWordsRulesOrLine();
        Subject other = Twins.made(Worlds::fixed);
        due("the one", 3, one.look());
        due("the other", 0, other.look());
    }

    // ---- promise 2: feed

    static void promise02FeedTakes1To8Bytes() {
        for (int n = 1; n <= 8; n++) {
            Subject x = new Subject();
            due("feed " + n, n, x.feed(n, 0xf1f2f3f4f5f6f7f8L));
            due("count " + n, n, x.count(4));
            x.line();
            for (int i = 0; i < n; i++) {
                due("byte " + i + " of " + n, 0xf0 + 8 - n + i + 1, x.at(i));
            }
            due("behind " + n, NONE, x.at(n));
        }
    }

    static void promise02FeedRefusesLessThan1AndMoreThan8Bytes() {
        for (int n : new int[] {0, -1, -8, LEAST, 9, 16, 257, MOST}) {
            refused("feed " + n, x -> x.feed(n, 0x61), BAD);
        }
    }

    static void promise02FeedTakesAllBytesAndSigns() {
        Subject x = new Subject();
        x.feed(1, -1L);
        x.feed(1, -256L);
        x.feed(8, Long.MIN_VALUE);
        x.feed(8, Long.MAX_VALUE);
        due("two and sixteen", 18, x.count(4));
        x.line();
        int[] bytes = {255, 0, 128, 0, 0, 0, 0, 0, 0, 0, 127, 255, 255, 255, 255, 255, 255, 255, NONE};
        for (int i = 0; i < bytes.length; i++) {
            due("byte " + i, bytes[i], x.at(i));
        }
    }

    private static void fillTape(Subject x, int bytes) {
        x.feed("abcdefg ".repeat(10).substring(0, bytes));
    }

    static void promise02FeedTakesThe80thByte() {
        for (int n = 1; n <= 8; n++) {
            Subject x = new Subject();
            fillTape(x, 80 - n);
            due("feed " + n + " up to the end", 80, x.feed(n, 0x3131313131313131L));
            x.line();
            due("the last byte", '1', x.at(79));
            due("the first of " + n, '1', x.at(80 - n));
            due("behind", NONE, x.at(80));
        }
    }

    static void promise02FeedRefusesThe81stByte() {
        for (int n = 1; n <= 8; n++) {
            int many = n;
            Twins.Run nearlyFull = x -> {
                Worlds.fixed(x);
                fillTape(x, 81 - many);
            };
            Twins.Run refused = x -> {
                nearlyFull.on(x);
                due("feed " + many + " past the end", FULL, x.feed(many, 0x31));
            };
            Twins.same(check, "feed " + many + " past the end", refused, nearlyFull);
        }
    }

    static void promise02FeedRefusedStillTakesLess() {
        Subject x = new Subject();
        fillTape(x, 79);
        due("two are too many", FULL, x.feed(2, 0x3132));
        due("one is not", 80, x.feed(1, 0x33));
        x.line();
        due("and is the last", '3', x.at(79));
    }

    static void promise02FeedIsBadBeforeFull() {
        Subject x = new Subject();
        fillTape(x, 80);
        due("feed 1", FULL, x.feed(1, 0));
        due("feed 8", FULL, x.feed(8, 0));
        due("feed 0", BAD, x.feed(0, 0));
        due("feed 9", BAD, x.feed(9, 0));
        due("feed least", BAD, x.feed(LEAST, 0));
        due("feed most", BAD, x.feed(MOST, 0));
        due("count", 80, x.count(4));
    }

    static void promise02FeedTakes80BytesAgainWhenTheTapeIsEmpty() {
        Subject x = new Subject();
        fillTape(x, 80);
        due("word", BAD, x.word(VERB));
        fillTape(x, 80);
        due("80 again behind word", 80, x.count(4));
        due("line", 10, x.line());
        x.feed("a ".repeat(40));
        due("80 again behind line", 80, x.count(4));
        due("line refused", FULL, x.line());
        fillTape(x, 80);
        due("80 again behind a refused line", 80, x.count(4));
    }

    // ---- promise 3: word

    static void promise03WordTakesNamesOf1And12Letters() {
        Subject x = new Subject();
        due("one letter", 0, x.tell("m", VERB));
        due("twelve letters", 1, x.tell("abcdefghijkl", VERB));
        due("tape", 0, x.count(4));
        x.say("m abcdefghijkl abcdefghijk abcdefghijklm");
        due("one is known", 0, x.typed(0, 2));
        due("twelve are known", 1, x.typed(1, 2));
        due("eleven of them are not", NONE, x.typed(2, 2));
        due("one more is not", NONE, x.typed(3, 2));
    }

    static void promise03WordRefusesNamesOf0And13Letters() {
        for (String name : new String[] {"", "abcdefghijklm", "a".repeat(79), "a".repeat(80)}) {
            emptied("letters: " + name.length(), name, VERB, BAD);
        }
    }

    private static void emptied(String call, String tape, int kind, int due) {
        Twins.emptying(check, "word, " + call, Worlds::fixed, tape, x -> x.word(kind), due);
        Twins.emptying(check, "word, " + call, Worlds::asking, tape, x -> x.word(kind), due);
    }

    static void promise03WordTakesLettersAToZAlone() {
        for (int b = 0; b < 256; b++) {
            String letter = String.valueOf((char) b);
            boolean taken = b >= 'a' && b <= 'z';
            for (String name : new String[] {letter, letter + "no", "n" + letter + "o", "no" + letter}) {
                Subject x = new Subject();
                due("byte " + b, taken ? 0 : BAD, x.tell(name, LINK));
                due("tape", 0, x.count(4));
                due("names", taken ? 1 : 0, x.count(2));
            }
        }
    }

    static void promise03WordRefusedForAByteChangesNothing() {
        for (String name : new String[] {"`", "{", "A", "Z", "lamP", "la mp", "\u00e1", "\u0000", "a1"}) {
            emptied(name, name, THING, BAD);
        }
    }

    static void promise03WordTakesKinds0To3() {
        Subject x = new Subject();
        for (int kind = 0; kind <= 3; kind++) {
            due("kind " + kind, kind, x.tell(Check.name(kind), kind));
        }
        due("a verb may have a rule", 0, x.rule(0));
        due("a thing may be in scope", 0, x.scope(1, true));
        due("a link may be a token", 1, x.token(0, 2));
        due("nothing is meant by an idle one", 1, x.looked(Check.name(3)));
    }

    static void promise03WordRefusesOtherKinds() {
        for (int kind : new int[] {-1, 4, LEAST, MOST}) {
            emptied("kind " + kind, "new", kind, BAD);
        }
    }

    static void promise03WordEmptiesTheTape() {
        Subject x = new Subject();
        x.tell("go", VERB);
        due("taken", 0, x.count(4));
        x.tell("go", VERB);
        due("no", 0, x.count(4));
        x.tell("to", 9);
        due("bad", 0, x.count(4));
        due("nothing left of them", 1, x.tell("on", VERB));
    }

    static void promise03WordRefusesANameThatIsOne() {
        for (int kind = 0; kind <= 3; kind++) {
            emptied("a name by now", "take", kind, NO);
            emptied("the last name", "key", kind, NO);
        }
        Subject x = Twins.made(Worlds::small);
        due("less of it", Worlds.WORDS, x.tell("tak", VERB));
        due("more of it", Worlds.WORDS + 1, x.tell("takes", VERB));
    }

    static void promise03WordRefusesALearnedName() {
        Twins.Run learned = x -> {
            Worlds.fixed(x);
            due("learned", 2, x.learn(0));
        };
        Twins.emptying(check, "a learned name", learned, "dor", x -> x.word(VERB), NO);
        due("not learned", Worlds.WORDS, Twins.made(learned).tell("doro", VERB));
    }

    static void promise03WordTakes60WordsAndNo61st() {
        Twins.Run full = x -> Worlds.words(x, 60);
        due("the 60th", 59, Twins.made(x -> Worlds.words(x, 59)).tell("zzz", LINK));
        Twins.emptying(check, "the 61st", full, "zzz", x -> x.word(VERB), FULL);
        due("60 words", 60, Twins.made(full).count(0));
        due("60 names", 60, Twins.made(full).count(2));
    }

    static void promise03WordTakes90NamesAndNo91st() {
        Subject x = Twins.made(y -> Worlds.names(y, 58, 89));
        due("89 names", 89, x.count(2));
        due("the 90th", 58, x.tell("new", VERB));
        due("90 names", 90, x.count(2));
        due("59 words", 59, x.count(0));
        Twins.Run full = y -> Worlds.names(y, 59, 90);
        Twins.emptying(check, "the 91st", full, "new", y -> y.word(VERB), FULL);
    }

    static void promise03WordIsBadBeforeNoBeforeFull() {
        wordIsRefusedInOrder(x -> Worlds.words(x, 60), Check.name(59));
        wordIsRefusedInOrder(x -> Worlds.names(x, 59, 90), "z" + Check.name(58));
        wordIsRefusedInOrder(x -> Worlds.names(x, 59, 90), "a" + Check.name(30));
        emptied("bad before no", "take", 4, BAD);
    }

    private static void wordIsRefusedInOrder(Twins.Run full, String name) {
        Subject x = Twins.made(full);
        due("full", FULL, x.tell("new", VERB));
        due("no before full", NO, x.tell(name, VERB));
        due("bad kind before no and full", BAD, x.tell(name, 4));
        due("bad kind before full", BAD, x.tell("new", -1));
        due("bad name before full", BAD, x.tell("New", VERB));
        due("no name before full", BAD, x.word(VERB));
        due("tape", 0, x.count(4));
    }

    static void promise03WordAtFirst() {
        Subject x = Twins.made(Worlds::small);
        int thing = x.tell("cup", THING);
        int verb = x.tell("go", VERB);
        due("not in scope", 5, x.looked("take cup"));
        due("of no class", 0, x.classes(thing, 0));
        due("scope", 0, x.scope(thing, false));
        due("not dangerous", 0, x.danger(verb, false));
        due("a verb without a rule", 6, x.looked("go"));
    }

    // ---- promise 4: scope

    static void promise04ScopeTellsWhatItWas() {
        Subject x = Twins.made(Worlds::small);
        due("at first", 0, x.scope(KEY, true));
        due("on", 1, x.scope(KEY, true));
        due("on still", 1, x.scope(KEY, false));
        due("off", 0, x.scope(KEY, false));
        due("off still", 0, x.scope(KEY, true));
        due("another", 1, x.scope(LAMP, true));
    }

    static void promise04ScopeIsForThingsAlone() {
        for (int word : new int[] {TAKE, BURN, WITH, THE}) {
            refused("scope of " + word, x -> x.scope(word, true), BAD);
            refused("scope of " + word, x -> x.scope(word, false), BAD);
        }
        for (int word : noWords(Worlds.WORDS)) {
            refused("scope of " + word, x -> x.scope(word, true), BAD);
            refused("scope of " + word, x -> x.scope(word, false), BAD);
        }
    }

    static void promise04ScopeOfTheFirstAndTheLastWord() {
        Subject x = new Subject();
        x.tell("first", THING);
        for (int i = 1; i < 59; i++) {
            x.tell(Check.name(i), LINK);
        }
        x.tell("last", THING);
        due("the first", 0, x.scope(0, true));
        due("the 60th", 0, x.scope(59, true));
        due("the first is", 1, x.scope(0, true));
        due("the 60th is", 1, x.scope(59, true));
        due("none behind", BAD, x.scope(60, true));
    }

    static void promise04ScopeIsAlwaysThatOfOthers() {
        Subject x = Twins.made(Worlds::small);
        for (int word : new int[] {OPEN, WITH, THE}) {
            x.scope(word, false);
        }
        x.scope(KEY, true);
        due("all in scope", 0, x.looked("open the door with key"));
    }

    // ---- promise 5: classes

    static void promise05ClassesTakesBits0To255() {
        Subject x = Twins.made(Worlds::small);
        due("at first", 0, x.classes(LAMP, 255));
        due("255", 255, x.classes(LAMP, 128));
        due("128", 128, x.classes(LAMP, 1));
        due("1", 1, x.classes(LAMP, 0));
        due("0", 0, x.classes(LAMP, 0));
        due("of another", 1, x.classes(DOOR, 1));
    }

    static void promise05ClassesRefusesOtherBits() {
        for (int bits : new int[] {-1, 256, 257, 1 << 16, LEAST, MOST}) {
            refused("bits " + bits, x -> x.classes(LAMP, bits), BAD);
        }
    }

    static void promise05ClassesIsForThingsAlone() {
        for (int word : new int[] {TAKE, BURN, WITH, THE}) {
            refused("classes of " + word, x -> x.classes(word, 3), BAD);
        }
        for (int word : noWords(Worlds.WORDS)) {
            refused("classes of " + word, x -> x.classes(word, 3), BAD);
        }
    }

    static void promise05ClassesAreBits0To7() {
        for (int c = 0; c <= 7; c++) {
            Subject x = Twins.made(Worlds::small);
            x.tellRule(OPEN, -2 - c, -2 - c, -2 - c);
            x.classes(LAMP, 1 << c);
            due("of class " + c, 0, x.looked("open lamp lamp lamp"));
            x.classes(LAMP, 255 - (1 << c));
            due("of all but class " + c, 6, x.look());
            x.classes(LAMP, 255);
            due("of all", 0, x.look());
        }
    }

    // ---- promise 6: danger

    static void promise06DangerTellsWhatItWas() {
        Subject x = Twins.made(Worlds::small);
        due("at first", 0, x.danger(TAKE, true));
        due("on", 1, x.danger(TAKE, true));
        due("on still", 1, x.danger(TAKE, false));
        due("off", 0, x.danger(TAKE, false));
        due("another", 1, x.danger(BURN, true));
    }

    static void promise06DangerIsForVerbsAlone() {
        for (int word : new int[] {LAMP, KEY, WITH, THE}) {
            refused("danger of " + word, x -> x.danger(word, true), BAD);
            refused("danger of " + word, x -> x.danger(word, false), BAD);
        }
        for (int word : noWords(Worlds.WORDS)) {
            refused("danger of " + word, x -> x.danger(word, true), BAD);
            refused("danger of " + word, x -> x.danger(word, false), BAD);
        }
    }

    static void promise06DangerOfTheLastWord() {
        Subject x = Twins.made(y -> Worlds.words(y, 59));
        x.tell("last", VERB);
        due("the 60th", 0, x.danger(59, true));
        due("the 60th is", 1, x.danger(59, true));
        due("none behind", BAD, x.danger(60, true));
    }

    // ---- promise 7: rule

    static void promise07RuleIsForVerbsAlone() {
        for (int word : new int[] {LAMP, KEY, WITH, THE}) {
            refused("rule of " + word, x -> x.rule(word), BAD);
        }
        for (int word : noWords(Worlds.WORDS)) {
            refused("rule of " + word, x -> x.rule(word), BAD);
        }
    }

    /** The small world with more rules of burn. */
    private static void rules(Subject x, int many) {
        Worlds.small(x);
        for (int i = Worlds.RULES; i < many; i++) {
            due("rule " + i, i, x.rule(BURN));
        }
    }

    static void promise07RuleTakes40RulesAndNo41st() {
        due("the 40th", 39, Twins.made(x -> rules(x, 39)).rule(TAKE));
        refusedIn(x -> rules(x, 40), "the 41st", x -> x.rule(TAKE), FULL);
        Subject x = Twins.made(y -> rules(y, 40));
        due("40 rules", 40, x.count(1));
        due("the first rule without tokens", 0, x.looked("burn"));
        due("it is", Worlds.RULES, x.told(2));
    }

    static void promise07RuleIsBadBeforeFull() {
        for (int word : new int[] {LAMP, WITH, THE, -1, Worlds.WORDS, LEAST, MOST}) {
            refusedIn(x -> rules(x, 40), "rule of " + word, x -> x.rule(word), BAD);
        }
    }

    static void promise07RuleHasNoTokensAtFirst() {
        Subject x = Twins.made(Worlds::small);
        due("no rule without tokens", 6, x.looked("take"));
        int rule = x.rule(TAKE);
        due("one", 0, x.look());
        due("it", rule, x.told(2));
        due("its first token", 1, x.token(rule, -1));
    }

    // ---- promise 8: token

    static void promise08TokenTakesTheFirstAndTheLastRule() {
        Subject x = Twins.made(y -> rules(y, 40));
        due("the first", 2, x.token(0, -1));
        due("the 40th", 1, x.token(39, -1));
        due("none behind", BAD, x.token(40, -1));
        due("none before", BAD, x.token(-1, -1));
    }

    static void promise08TokenRefusesNoRule() {
        for (int rule : new int[] {-1, Worlds.RULES, Worlds.RULES + 1, 39, 40, LEAST, MOST}) {
            refused("rule " + rule, x -> x.token(rule, -1), BAD);
            refused("rule " + rule, x -> x.token(rule, WITH), BAD);
        }
    }

    static void promise08TokenTakesMinus1ToMinus9AndLinks() {
        for (int token = -9; token <= -1; token++) {
            Subject x = Twins.made(Worlds::small);
            due("token " + token, 2, x.token(0, token));
            x.say("take lamp");
            due("it is missing", token, x.missing(0));
        }
        Subject x = Twins.made(Worlds::small);
        due("a link", 2, x.token(0, WITH));
        due("fits", 0, x.looked("take lamp with"));
    }

    static void promise08TokenRefusesOthers() {
        for (int token : new int[] {-10, -11, -33, -34, -258, LEAST, LEAST + 1}) {
            refused("token " + token, x -> x.token(0, token), BAD);
        }
        for (int token : new int[] {TAKE, LAMP, THE, KEY, Worlds.WORDS, 59, 60, MOST}) {
            refused("token " + token, x -> x.token(0, token), BAD);
        }
    }

    static void promise08TokenOfTheFirstAndTheLastWord() {
        Subject x = new Subject();
        x.tell("to", LINK);
        for (int i = 1; i < 59; i++) {
            x.tell(Check.name(i), VERB);
        }
        x.tell("on", LINK);
        x.rule(1);
        due("the first", 1, x.token(0, 0));
        due("the 60th", 2, x.token(0, 59));
        due("none behind", BAD, x.token(0, 60));
        due("fits", 0, x.looked(Check.name(1) + " to on"));
    }

    static void promise08TokenTakes4AndNo5th() {
        Twins.Run four = x -> {
            Worlds.fixed(x);
            for (int many = 2; many <= 4; many++) {
                due("token " + many, many, x.token(0, -1));
            }
        };
        refusedIn(four, "a fifth thing", x -> x.token(0, -1), FULL);
        refusedIn(four, "a fifth class", x -> x.token(0, -9), FULL);
        refusedIn(four, "a fifth link", x -> x.token(0, WITH), FULL);
        Subject x = Twins.made(four);
        due("four fit", 0, x.looked("take lamp lamp lamp door"));
        due("five do not", 6, x.looked("take lamp lamp lamp door door"));
        due("the next rule is as it was", 0, x.looked("open door"));
    }

    static void promise08TokenIsBadBeforeFull() {
        Twins.Run four = x -> {
            Worlds.small(x);
            x.tellRule(TAKE, -1, -1, -1, -1);
        };
        for (int token : new int[] {-10, TAKE, LAMP, THE, Worlds.WORDS, LEAST, MOST}) {
            refusedIn(four, "token " + token, x -> x.token(Worlds.RULES, token), BAD);
        }
    }

    // ---- promise 9: setting

    static void promise09SettingTakesItsLeastAndItsMost() {
        Subject x = new Subject();
        for (int what = 0; what <= 8; what++) {
            due("first " + what, FIRST[what], x.setting(what, LOW[what]));
            due("least " + what, LOW[what], x.setting(what, HIGH[what]));
            due("most " + what, HIGH[what], x.setting(what, HIGH[what]));
        }
        for (int what = 0; what <= 8; what++) {
            due("kept " + what, HIGH[what], x.setting(what, LOW[what]));
        }
    }

    static void promise09SettingTakesAllBetween() {
        for (int what = 0; what <= 8; what++) {
            Subject x = new Subject();
            int was = FIRST[what];
            for (int v = LOW[what]; v <= HIGH[what]; v++) {
                due("setting " + what, was, x.setting(what, v));
                was = v;
            }
        }
    }

    static void promise09SettingRefusesLessAndMore() {
        for (int what = 0; what <= 8; what++) {
            int which = what;
            for (int v : new int[] {LOW[what] - 1, HIGH[what] + 1, -1, LEAST, MOST}) {
                refused("setting " + what + " to " + v, x -> x.setting(which, v), BAD);
            }
        }
    }

    static void promise09SettingRefusesWhatIsNone() {
        for (int what : new int[] {-1, 9, 10, LEAST, MOST}) {
            for (int v : new int[] {0, 1, 9}) {
                refused("setting " + what + " to " + v, x -> x.setting(what, v), BAD);
            }
        }
    }

    static void promise09SettingsAreAtWorkAtTheirLeastAndMost() {
        for (int what = 0; what <= 4; what++) {
            Subject x = Twins.made(Worlds::small);
            x.near(0, 18);
            for (int other = 0; other <= 4; other++) {
                x.setting(other, other == what ? 1 : 9);
            }
            String[] typed = {"lampp", "lmp", "lxmp", "lsmp", "lmap"};
            x.say(typed[what]);
            due("cost " + what + " at 1", 1, x.edits(0, LAMP));
            x.setting(what, 9);
            due("cost " + what + " at 9", 9, x.edits(0, LAMP));
        }
    }

    // ---- promise 10: near

    static void promise10NearTakesLetters0To25() {
        Subject x = new Subject();
        due("0 and 25", 1, x.near(0, 25));
        due("again", 0, x.near(0, 25));
        due("the other way", 0, x.near(25, 0));
        due("25 and 24", 1, x.near(25, 24));
        due("24 and 25", 0, x.near(24, 25));
        due("1 and 0", 1, x.near(1, 0));
        due("0 and 24", 1, x.near(0, 24));
    }

    static void promise10NearRefusesNoLetters() {
        for (int letter : new int[] {-1, 26, 97, LEAST, MOST}) {
            refused("near " + letter, x -> x.near(letter, 3), BAD);
            refused("near 3 and " + letter, x -> x.near(3, letter), BAD);
            refused("near " + letter + " twice", x -> x.near(letter, letter), BAD);
        }
        refused("near -1 and 26", x -> x.near(-1, 26), BAD);
    }

    static void promise10NearRefusesOneAndTheSame() {
        for (int letter = 0; letter < 26; letter++) {
            int same = letter;
            refusedIn(Worlds::asking, "near " + letter, x -> x.near(same, same), BAD);
        }
    }

    static void promise10NearIsBothWaysAndOfTwoLettersAlone() {
        Subject x = new Subject();
        x.setting(3, 1);
        x.tell("az", VERB);
        x.near(25, 0);
        x.say("zz aa ya ab");
        due("z to a", 1, x.edits(0, 0));
        due("a to z", 1, x.edits(1, 0));
        due("y to a", 4, x.edits(2, 0));
        due("b to z", 3, x.edits(3, 0));
    }
}
