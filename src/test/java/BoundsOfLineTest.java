/** Promises 11 to 15 at their bounds: the line, its words, its verdict, and what is told of it. */
public final class BoundsOfLineTest {
    private static final int NONE = Subject.NONE, BAD = Subject.BAD, FULL = Subject.FULL;
    private static final int LEAST = Integer.MIN_VALUE, MOST = Integer.MAX_VALUE;
    private static final int VERB = Worlds.VERB, THING = Worlds.THING, IDLE = Worlds.IDLE;
    private static final int TAKE = Worlds.TAKE, OPEN = Worlds.OPEN, LAMP = Worlds.LAMP;
    private static final int THE = Worlds.THE, KEY = Worlds.KEY;
    private static final String TEN = "a b c d e f g h i j", ELEVEN = TEN + " k";

    private static final Check check = new Check();

    public static void main(String[] args) {
        check.runTests(BoundsOfLineTest.class);
        check.end("BoundsOfLineTest");
    }

    private static void due(String call, int want, int got) {
        check.due(call, want, got);
    }

    private static void same(String call, String want, String got) {
        check.due(call + ": '" + got + "' is '" + want + "', which", 1, want.equals(got) ? 1 : 0);
    }

    /** Refused with a note, with proposals, and with a rule that is near; nothing is changed by it. */
    private static void refused(String name, Twins.Call call, int due) {
        Twins.idle(check, name, Worlds::fixed, call, due);
        Twins.idle(check, name, Worlds::asking, call, due);
        Twins.idle(check, name, Worlds::lacking, call, due);
        Twins.idle(check, name, Worlds::nothing, call, due);
    }

    // ---- promise 11: line

    static void promise11LineTakesTenWords() {
        Subject x = Twins.made(Worlds::fixed);
        due("ten", 10, x.say(TEN));
        due("count", 10, x.count(6));
        same("the line", TEN, x.text());
        due("the last of them", 18, x.typed(9, 0));
    }

    static void promise11LineRefusesElevenWords() {
        String[] texts = {ELEVEN, " " + ELEVEN + " ", "a ".repeat(40), " a".repeat(40), TEN + " ".repeat(60) + "k"};
        for (String text : texts) {
            Twins.emptying(check, text, Worlds::fixed, text, Subject::line, FULL);
            Twins.emptying(check, text, Worlds::asking, text, Subject::line, FULL);
            Twins.emptying(check, text, Worlds::nothing, text, Subject::line, FULL);
        }
    }

    static void promise11LineRefusedKeepsTheLineAndTheNote() {
        Subject x = Twins.made(Worlds::fixed);
        due("eleven", FULL, x.say(ELEVEN));
        same("the line", "take the lamp!", x.text());
        due("the note", 2, x.told(8));
        due("its words", 3, x.count(6));
        due("its verdict", 0, x.look());
    }

    static void promise11LineEmptiesTheTapeInAnyCase() {
        Subject x = new Subject();
        x.say(TEN);
        due("taken", 0, x.count(4));
        x.say(ELEVEN);
        due("refused", 0, x.count(4));
        due("nothing is left", 1, x.say("a"));
        same("the line", "a", x.text());
        due("an empty one", 0, x.line());
        due("none", 0, x.count(5));
    }

    static void promise11LineOfNothing() {
        Subject x = Twins.made(Worlds::fixed);
        due("no words", 0, x.line());
        due("no bytes", 0, x.count(5));
        due("no byte", NONE, x.at(0));
        due("no word", BAD, x.typed(0, 0));
        due("no note", NONE, x.told(8));
        due("verdict", 1, x.look());
        due("bytes and no words", 0, x.say(" .,1 "));
        due("five bytes", 5, x.count(5));
        due("no verdict more", 1, x.look());
    }

    static void promise11LineHasNoNoteThen() {
        Subject x = Twins.made(Worlds::fixed);
        due("a note", 2, x.told(8));
        x.say("take the lamp!");
        due("none, though the line is the same", NONE, x.told(8));
    }

    static void promise11LineTakes80Bytes() {
        Subject x = new Subject();
        due("one word", 1, x.say("a".repeat(80)));
        due("its letters", 80, x.typed(0, 1));
        due("its bytes", 80, x.count(5));
        String words = "abcdefg ".repeat(10);
        due("ten words and a space", 10, x.say(words));
        same("all of them", words, x.text());
        due("ten words at the end", 10, x.say(" abcdefg".repeat(10)));
        due("the last begins", 73, x.typed(9, 0));
        due("and ends at the end", 7, x.typed(9, 1));
        due("no words", 0, x.say(" ".repeat(80)));
    }

    /** A byte between two letters makes two words of them, or one if it is a letter. */
    static void promise11LineHasWordsOfLettersAlone() {
        for (int b = 0; b < 256; b++) {
            boolean letter = b >= 'a' && b <= 'z' || b >= 'A' && b <= 'Z';
            Subject x = new Subject();
            due("byte " + b + " between", letter ? 1 : 2, x.say("p" + (char) b + "q"));
            due("byte " + b + " alone", letter ? 1 : 0, x.say("" + (char) b));
            due("byte " + b + " as it was", b, x.at(0));
        }
    }

    static void promise11LineReadsCapitalsAsSmallLetters() {
        Subject x = new Subject();
        x.tell("az", VERB);
        x.say("AZ Az aZ az BZ AY");
        for (int k = 0; k < 4; k++) {
            due("known " + k, 0, x.typed(k, 2));
        }
        due("not known", NONE, x.typed(4, 2));
        due("not known", NONE, x.typed(5, 2));
        due("no cost", 0, x.edits(0, 0));
    }

    static void promise11LineBehindALongerOne() {
        Subject x = Twins.made(Worlds::small);
        x.say(TEN);
        due("one word", 1, x.say("lamp"));
        due("no second", BAD, x.typed(1, 0));
        due("no fifth byte", NONE, x.at(4));
        due("verdict", 4, x.look());
    }

    // ---- promise 12: at

    static void promise12AtTakesTheFirstAndTheLastByte() {
        Subject x = new Subject();
        x.say("(" + ".".repeat(78) + ")");
        due("the first", '(', x.at(0));
        due("the 80th", ')', x.at(79));
        due("behind", NONE, x.at(80));
        due("before", NONE, x.at(-1));
        x.say("xy");
        due("the last of two", 'y', x.at(1));
        due("behind two", NONE, x.at(2));
    }

    static void promise12AtIsNoneElsewhere() {
        for (int i : new int[] {-1, 92, 256, LEAST, MOST}) {
            refused("at " + i, x -> x.at(i), NONE);
        }
        Twins.idle(check, "at the end", Worlds::fixed, x -> x.at(14), NONE);
        Twins.idle(check, "at the last", Worlds::fixed, x -> x.at(13), '!');
    }

    static void promise12AtTellsBytes0To255() {
        for (int b = 0; b < 256; b++) {
            Subject x = new Subject();
            x.feed(1, b);
            x.line();
            due("byte " + b, b, x.at(0));
        }
    }

    static void promise12AtOfALineThatWasFixed() {
        Subject x = Twins.made(Worlds::fixed);
        x.say("Take LMAPP");
        due("fixed", 1, x.fix());
        same("the name comes in small letters, the rest stays", "Take lamp", x.text());
        due("shorter now", NONE, x.at(9));
        x.say("Take LMP.");
        due("fixed", 1, x.fix());
        due("longer now", '.', x.at(9));
        due("behind", NONE, x.at(10));
    }

    // ---- promise 13: typed

    static void promise13TypedTakesTheFirstAndTheTenthWord() {
        Subject x = Twins.made(Worlds::small);
        x.say("take, the lamp a b c d e f KEY");
        int[][] words = {{0, 4, TAKE}, {6, 3, THE}, {10, 4, LAMP}, {15, 1, NONE}};
        for (int k = 0; k < words.length; k++) {
            for (int what = 0; what <= 2; what++) {
                due("word " + k + " " + what, words[k][what], x.typed(k, what));
            }
        }
        due("the tenth's place", 27, x.typed(9, 0));
        due("the tenth's letters", 3, x.typed(9, 1));
        due("the tenth's word", KEY, x.typed(9, 2));
        due("no eleventh", BAD, x.typed(10, 0));
    }

    static void promise13TypedRefusesNoSuchWord() {
        for (int k : new int[] {-1, 5, 9, 10, LEAST, MOST}) {
            for (int what = 0; what <= 2; what++) {
                int which = what;
                refused("typed " + k + " " + what, x -> x.typed(k, which), BAD);
            }
        }
        Twins.idle(check, "the last", Worlds::fixed, x -> x.typed(2, 2), LAMP);
        Twins.idle(check, "behind the last", Worlds::fixed, x -> x.typed(3, 2), BAD);
    }

    static void promise13TypedRefusesOtherThanWhat0To2() {
        for (int what : new int[] {-1, 3, LEAST, MOST}) {
            refused("what " + what, x -> x.typed(0, what), BAD);
            refused("what " + what + " of none", x -> x.typed(-1, what), BAD);
        }
    }

    static void promise13TypedKnowsWholeNamesAlone() {
        Subject x = new Subject();
        x.tell("abcdefghijkl", VERB);
        x.tell("b", IDLE);
        x.say("abcdefghijkl abcdefghijklm abcdefghijk b bb xb");
        int[] words = {0, NONE, NONE, 1, NONE, NONE};
        for (int k = 0; k < words.length; k++) {
            due("word " + k, words[k], x.typed(k, 2));
        }
        x.say("abcdefghijkl".repeat(6));
        due("72 letters", NONE, x.typed(0, 2));
    }

    static void promise13TypedWordThatIsToldLater() {
        Subject x = Twins.made(Worlds::small);
        x.say("take cup");
        due("not known", NONE, x.typed(1, 2));
        x.tell("cup", THING);
        due("known now", Worlds.WORDS, x.typed(1, 2));
        due("by the verdict, too", 5, x.look());
    }

    // ---- promise 14: look

    static void promise14LookIs1WhenNothingIsMeant() {
        Subject x = Twins.made(Worlds::small);
        due("no line", 1, x.look());
        due("no words", 1, x.looked("..."));
        due("an idle word", 1, x.looked("the"));
        due("ten idle words", 1, x.looked("the ".repeat(10)));
        due("one that is meant", 4, x.looked("the the lamp"));
        due("one that is not known", 3, x.looked("the foo"));
    }

    static void promise14LookIs3ForOneAnd2ForTwoNotKnown() {
        Subject x = Twins.made(Worlds::small);
        due("none", 0, x.looked("take lamp"));
        due("one", 3, x.looked("take foo"));
        due("two", 2, x.looked("take foo bar"));
        due("one twice", 2, x.looked("foo foo"));
        due("ten", 2, x.looked(TEN));
        due("one of ten, the first", 3, x.looked("foo" + " lamp".repeat(9)));
        due("one of ten, the last", 3, x.looked("take" + " lamp".repeat(8) + " foo"));
        due("two of ten", 2, x.looked("foo" + " lamp".repeat(8) + " foo"));
    }

    static void promise14LookIsTheFirstOfItsCauses() {
        Subject x = Twins.made(Worlds::small);
        due("2 before 4 and 5", 2, x.looked("key foo bar"));
        due("3 before 4", 3, x.looked("lamp foo"));
        due("3 before 5", 3, x.looked("take key foo"));
        due("4 before 5", 4, x.looked("lamp key"));
        due("4 for a thing not in scope", 4, x.looked("key"));
        due("4 for a link", 4, x.looked("with lamp"));
        due("5 before 0", 5, x.looked("take key"));
        due("5 before 6", 5, x.looked("open key key"));
        x.scope(KEY, true);
        due("6 then", 6, x.look());
        due("0 then", 0, x.looked("take key"));
    }

    static void promise14LookNeedsAsManyWordsAsTokens() {
        for (int tokens = 0; tokens <= 4; tokens++) {
            Subject x = new Subject();
            x.tell("go", VERB);
            x.tell("lamp", THING);
            x.scope(1, true);
            x.tellRule(0, java.util.Arrays.copyOf(new int[] {-1, -1, -1, -1}, tokens));
            for (int words = 0; words <= 9; words++) {
                due(tokens + " tokens, " + words + " words", words == tokens ? 0 : 6, x.looked("go" + " lamp".repeat(words)));
            }
        }
    }

    static void promise14LookNeedsEachWordAsItsToken() {
        Subject x = Twins.made(Worlds::small);
        x.scope(KEY, true);
        due("as told", 0, x.looked("open door with key"));
        due("not the class of the first", 6, x.looked("open lamp with key"));
        due("not the class of the last", 6, x.looked("open door with door"));
        due("not the link", 6, x.looked("open door door key"));
        due("a verb for a thing", 6, x.looked("take open"));
        due("a link for a thing", 6, x.looked("take with"));
        due("not in this order", 6, x.looked("open key with door"));
        due("another verb", 6, x.looked("take door with key"));
        due("idle words are free", 0, x.looked("the open the the door with the key the"));
    }

    // ---- promise 15: told

    static void promise15ToldRefusesOtherThanWhat0To8() {
        for (int what : new int[] {-1, 9, LEAST, MOST}) {
            refused("told " + what, x -> x.told(what), BAD);
        }
    }

    static void promise15ToldChangesNothing() {
        int[] fixed = {2, NONE, 0, 0, 0, 0, 0, 0, 2};
        int[] lacking = {3, NONE, NONE, 0, 1, 1, 2, 0, NONE};
        for (int what = 0; what <= 8; what++) {
            int which = what;
            Twins.idle(check, "told " + what, Worlds::fixed, x -> x.told(which), fixed[what]);
            Twins.idle(check, "told " + what, Worlds::lacking, x -> x.told(which), lacking[what]);
        }
    }

    static void promise15ToldHowManyAreMeant() {
        Subject x = Twins.made(Worlds::small);
        for (int meant = 0; meant <= 10; meant++) {
            x.say("the ".repeat(10 - meant) + "foo ".repeat(meant));
            due("meant", meant, x.told(0));
        }
    }

    static void promise15ToldTheWordOfTheVerdict() {
        String[] texts = {"take lamp", "the", "the take foo bar", "the take the foo", "the lamp take", "the take lamp key key", "take"};
        int[] words = {NONE, NONE, 2, 3, 1, 3, NONE};
        Subject x = Twins.made(Worlds::small);
        for (int verdict = 0; verdict <= 6; verdict++) {
            due("verdict", verdict, x.looked(texts[verdict]));
            due("word of verdict " + verdict, words[verdict], x.told(1));
        }
        x.say("take" + " the".repeat(8) + " foo");
        due("the tenth", 9, x.told(1));
        x.say("foo the bar");
        due("the first of two", 0, x.told(1));
    }

    static void promise15ToldTheFirstRuleThatFits() {
        Subject x = Twins.made(Worlds::small);
        x.say("take lamp");
        due("the first rule", 0, x.told(2));
        x.tellRule(TAKE, -1);
        due("still the first", 0, x.told(2));
        for (int i = Worlds.RULES + 1; i < 39; i++) {
            x.rule(OPEN);
        }
        x.tellRule(TAKE, -1, -1);
        x.say("take lamp lamp");
        due("the 40th rule", 39, x.told(2));
        x.say("take lamp lamp lamp");
        due("none", NONE, x.told(2));
        x.say("take key");
        due("none with verdict 5", NONE, x.told(2));
    }

    static void promise15ToldNoProposalsBut3() {
        Subject x = Twins.made(Worlds::small);
        x.setting(5, 60);
        String[] texts = {"take lamp", "the", "tak lam", "tak lamp", "lamp", "take key", "take"};
        for (int verdict = 0; verdict <= 6; verdict++) {
            due("verdict", verdict, x.looked(texts[verdict]));
            due("proposals at " + verdict, 1, (x.told(3) > 0) == (verdict == 3) ? 1 : 0);
        }
    }

    static void promise15ToldTheNearestRuleWithVerdicts0And6Alone() {
        Subject x = Twins.made(Worlds::small);
        String[] texts = {"take lamp", "the", "take foo bar", "take foo", "lamp", "take key", "take"};
        int[] missing = {0, 0, 0, 0, 0, 0, 1};
        for (int verdict = 0; verdict <= 6; verdict++) {
            due("verdict", verdict, x.looked(texts[verdict]));
            due("rule at " + verdict, verdict == 0 || verdict == 6 ? 0 : NONE, x.told(4));
            due("missing at " + verdict, missing[verdict], x.told(5));
            due("extra at " + verdict, 0, x.told(6));
        }
    }

    static void promise15ToldNothingMissingOrExtraOfTheLineBefore() {
        Subject x = Twins.made(Worlds::small);
        for (String text : new String[] {"the", "take foo bar", "take foo", "lamp", "take key"}) {
            x.say("open with lamp");
            due("rule", 1, x.told(4));
            due("missing", 1, x.told(5));
            due("extra", 2, x.told(6));
            x.say(text);
            due("no rule", NONE, x.told(4));
            due("none missing", 0, x.told(5));
            due("none extra", 0, x.told(6));
        }
    }

    static void promise15ToldNoNearestRuleOfAVerbWithoutRules() {
        Subject x = Twins.made(Worlds::small);
        int wait = x.tell("wait", VERB);
        due("verdict", 6, x.looked("wait lamp"));
        due("rule", NONE, x.told(4));
        due("missing", 0, x.told(5));
        due("extra", 0, x.told(6));
        x.rule(wait);
        due("a rule now", Worlds.RULES, x.told(4));
        due("extra now", 1, x.told(6));
    }

    static void promise15ToldHowManyAreMissingAndExtra() {
        Subject x = new Subject();
        x.tell("go", VERB);
        x.tell("lamp", THING);
        x.scope(1, true);
        x.tellRule(0, -1, -1, -1, -1);
        for (int words = 0; words <= 9; words++) {
            x.say("go" + " lamp".repeat(words));
            due("missing of " + words, Math.max(0, 4 - words), x.told(5));
            due("extra of " + words, Math.max(0, words - 4), x.told(6));
        }
        x.tell("up", Worlds.LINK);
        x.say("go" + " up".repeat(9));
        due("all missing", 4, x.told(5));
        due("all extra", 9, x.told(6));
    }

    static void promise15ToldTheNearestRuleOfLikeOnesTheFirst() {
        Subject x = Twins.made(Worlds::small);
        x.say("open");
        due("one missing is less than three", 1, x.told(4));
        x.say("open door with");
        due("one extra is as much as one missing: the first", 1, x.told(4));
        x.say("open door with door");
        due("two extra are as much as one missing and one extra", 1, x.told(4));
        x.say("open with with door");
        due("two extra against two and two", 1, x.told(4));
        x.scope(KEY, true);
        x.say("open with key");
        due("one missing is less than three", 2, x.told(4));
        int pairedFirst = x.tellRule(TAKE, Worlds.WITH);
        x.say("take with");
        due("a later rule, by its first token", pairedFirst, x.told(4));
    }

    static void promise15ToldTheNote() {
        Subject x = Twins.made(Worlds::fixed);
        x.say("tkae lamp");
        due("no note yet", NONE, x.told(8));
        due("fixed", 1, x.fix());
        due("of the first word", 0, x.told(8));
        x.say("take" + " the".repeat(8) + " lmap");
        due("fixed", 1, x.fix());
        due("of the tenth word", 9, x.told(8));
        due("fix refused", Subject.NO, x.fix());
        due("choose refused", BAD, x.choose(0));
        due("the note stays", 9, x.told(8));
        x.say("take lmap");
        x.choose(0);
        due("no note of what was chosen", NONE, x.told(8));
    }
}
