/** Promises 16 to 23 at their bounds: proposals, fixing, nearest rules, hints, and edits. */
public final class BoundsOfHelpTest {
    private static final int NONE = Subject.NONE, BAD = Subject.BAD, NO = Subject.NO, THROWS = Subject.THROWS;
    private static final int LEAST = Integer.MIN_VALUE, MOST = Integer.MAX_VALUE;
    private static final int VERB = Worlds.VERB, THING = Worlds.THING, LINK = Worlds.LINK, IDLE = Worlds.IDLE;
    private static final int TAKE = Worlds.TAKE, OPEN = Worlds.OPEN, BURN = Worlds.BURN, LAMP = Worlds.LAMP;
    private static final int DOOR = Worlds.DOOR, WITH = Worlds.WITH, THE = Worlds.THE, KEY = Worlds.KEY;
    /** A line of the small world for each verdict. */
    private static final String[] LINES = {"take lamp", "the", "tkae lmap", "take lmap", "lamp take", "take key", "open lamp"};

    private static final Check check = new Check();

    public static void main(String[] args) {
        check.runTests(BoundsOfHelpTest.class);
        check.end("BoundsOfHelpTest");
    }

    private static void due(String call, int want, int got) {
        check.due(call, want, got);
    }

    private static void same(String call, String want, String got) {
        check.due(call + ": '" + got + "' is '" + want + "', which", 1, want.equals(got) ? 1 : 0);
    }

    private static void idle(String name, Twins.Run world, Twins.Call call, int due) {
        Twins.idle(check, name, world, call, due);
    }

    /** The world with a note, with fixing allowed, and then this line. */
    private static Twins.Run saying(String text) {
        return x -> {
            Worlds.fixed(x);
            x.say(text);
        };
    }

    /** Refused with the line of each verdict but for one of them; nothing is changed by it. */
    private static void refusedButFor(int taken, int alsoTaken, String name, Twins.Call call, int due) {
        for (int verdict = 0; verdict <= 6; verdict++) {
            due("verdict", verdict, Twins.made(saying(LINES[verdict])).look());
            if (verdict != taken && verdict != alsoTaken) {
                idle(name + " at verdict " + verdict, saying(LINES[verdict]), call, due);
            }
        }
    }

    // ---- promise 16: proposal

    static void promise16ProposalTakesTheFirstAndTheLast() {
        Subject x = Twins.made(Worlds::asking);
        int many = x.told(3);
        due("several", 1, many > 2 ? 1 : 0);
        due("the first", LAMP, x.proposal(0, 0));
        due("its distance", 3, x.proposal(0, 1));
        due("it would not fit", 0, x.proposal(0, 2));
        due("the last", 1, x.proposal(many - 1, 0) >= 0 ? 1 : 0);
        due("behind the last", BAD, x.proposal(many, 0));
    }

    static void promise16ProposalRefusesNoProposal() {
        int many = Twins.made(Worlds::asking).told(3);
        for (int i : new int[] {-1, many, many + 1, 59, 60, LEAST, MOST}) {
            for (int what = 0; what <= 2; what++) {
                int which = what;
                idle("proposal " + i + " " + what, Worlds::asking, x -> x.proposal(i, which), BAD);
            }
        }
        refusedButFor(3, 3, "proposal 0", x -> x.proposal(0, 0), BAD);
    }

    static void promise16ProposalRefusesOtherThanWhat0To2() {
        for (int what : new int[] {-1, 3, LEAST, MOST}) {
            idle("what " + what, Worlds::asking, x -> x.proposal(0, what), BAD);
            idle("what " + what + " of none", Worlds::asking, x -> x.proposal(-1, what), BAD);
        }
    }

    static void promise16ProposalChangesNothing() {
        idle("word", Worlds::asking, x -> x.proposal(0, 0), LAMP);
        idle("distance", Worlds::asking, x -> x.proposal(0, 1), 3);
        idle("fits", Worlds::asking, x -> x.proposal(0, 2), 0);
    }

    static void promise16ProposalOfDistanceSetting5AndNotOfMore() {
        Subject x = Twins.made(Worlds::small);
        for (int more = 1; more <= 9; more++) {
            x.say("take lamp" + "p".repeat(more));
            x.setting(5, 2 * more);
            due("at " + 2 * more, 1, x.told(3));
            due("its distance", 2 * more, x.proposal(0, 1));
            x.setting(5, 2 * more - 1);
            due("below " + 2 * more, 0, x.told(3));
        }
    }

    static void promise16ProposalAtTheLeastAndTheMostOfSetting5() {
        Subject x = new Subject();
        x.tell("a", VERB);
        x.setting(0, 1);
        x.setting(5, 60);
        x.say("a".repeat(61));
        due("60", 1, x.told(3));
        due("its distance", 60, x.proposal(0, 1));
        x.say("a".repeat(62));
        due("61", 0, x.told(3));
        due("its distance", 61, x.edits(0, 0));
        x.say("aa");
        x.setting(5, 1);
        due("1", 1, x.told(3));
        x.setting(5, 0);
        due("0", 0, x.told(3));
        due("fix at 0", 0, x.fix());
    }

    static void promise16ProposalOfLessThanAllAnew() {
        Subject x = new Subject();
        x.tell("ab", VERB);
        x.setting(5, 60);
        x.setting(3, 3);
        x.say("xy");
        due("6 of 8", 1, x.told(3));
        x.setting(2, 4);
        due("8 of 8", 0, x.told(3));
        x.near(0, 23);
        due("7 of 8", 1, x.told(3));
        due("its distance", 7, x.proposal(0, 1));
        x.setting(3, 4);
        due("8 of 8 again", 0, x.told(3));
        x.setting(1, 3);
        due("8 of 10", 1, x.told(3));
        x.setting(1, 2);
        x.setting(0, 3);
        due("8 of 10 the other way", 1, x.told(3));
    }

    static void promise16ProposalForOneLetter() {
        Subject x = new Subject();
        x.tell("a", VERB);
        x.say("x");
        due("3 of 4", 1, x.told(3));
        x.setting(2, 4);
        due("4 of 4", 0, x.told(3));
        x.setting(2, 9);
        due("4 of 4, by leaving out and putting in", 0, x.told(3));
        due("its distance", 4, x.edits(0, 0));
    }

    /** Told with one name, and learned another; S2 at 4, so that b is as far from xy as all anew. */
    private static Subject twoNames(String first, String second) {
        Subject x = new Subject();
        x.setting(5, 60);
        x.setting(8, 1);
        x.tell(first, VERB);
        x.chooseOften(second, 1);
        due("learned", 2, x.learn(0));
        x.setting(2, 4);
        x.say("xy");
        due("both are as far", 6, x.edits(0, 0));
        return x;
    }

    static void promise16ProposalByTheNameFirstToldOfLikeOnes() {
        due("6 of 6 by b", 0, twoNames("b", "xyabc").told(3));
        Subject x = twoNames("xyabc", "b");
        due("6 of 14 by xyabc", 1, x.told(3));
        due("its distance", 6, x.proposal(0, 1));
    }

    /** Sixty verbs, and one word that all of them have a letter in common with. */
    private static void sixty(Subject x) {
        for (int i = 0; i < 60; i++) {
            x.tell(Check.name(i), VERB);
        }
        x.setting(5, 60);
        x.say("aaaa");
    }

    static void promise16ProposalsMayBeAll60Words() {
        Subject x = Twins.made(BoundsOfHelpTest::sixty);
        due("60", 60, x.told(3));
        for (int i = 1; i < 60; i++) {
            int before = x.proposal(i - 1, 1) * 100 + x.proposal(i - 1, 0);
            int here = x.proposal(i, 1) * 100 + x.proposal(i, 0);
            due("by distances, then by numbers, " + i, 1, before < here ? 1 : 0);
        }
        due("no 61st", BAD, x.proposal(60, 0));
        due("the 60th chosen", 6, x.choose(59));
    }

    static void promise16ProposalsBySetting7() {
        Twins.Run without = x -> {
            Worlds.asking(x);
            x.setting(7, 0);
        };
        due("none", 0, Twins.made(without).told(3));
        idle("proposal", without, x -> x.proposal(0, 0), BAD);
        idle("fix", without, x -> x.fix(), 0);
        idle("choose", without, x -> x.choose(0), BAD);
        Subject x = Twins.made(without);
        x.setting(7, 1);
        due("again", LAMP, x.proposal(0, 0));
    }

    static void promise16ProposalsAreInScopeAndNotIdle() {
        Subject x = Twins.made(Worlds::small);
        x.say("take lmap");
        due("in scope", 1, x.told(3));
        x.scope(LAMP, false);
        due("not in scope", 0, x.told(3));
        x.say("take thee");
        due("idle", 0, x.told(3));
        x.say("take withh");
        due("a link", WITH, x.proposal(0, 0));
        x.say("take burnn");
        due("a verb", BURN, x.proposal(0, 0));
    }

    static void promise16ProposalsOfLikeDistancesThoseThatFitFirst() {
        Subject x = new Subject();
        int go = x.tell("go", VERB);
        int[] kinds = {LINK, THING, THING, LINK, THING};
        for (int i = 0; i < kinds.length; i++) {
            int word = x.tell("ca" + (char) ('b' + i), kinds[i]);
            x.scope(word, true);
            x.classes(word, i == 1 ? 0 : 1);
        }
        x.tellRule(go, -2);
        x.say("go cax");
        int[][] due = {{3, 1}, {5, 1}, {1, 0}, {2, 0}, {4, 0}};
        for (int i = 0; i < due.length; i++) {
            due("word " + i, due[i][0], x.proposal(i, 0));
            due("distance " + i, 3, x.proposal(i, 1));
            due("fits " + i, due[i][1], x.proposal(i, 2));
        }
        x.near('b' - 'a', 'x' - 'a');
        due("a lesser distance before one that fits", 1, x.proposal(0, 0));
        x.tell("caxx", LINK);
        x.setting(1, 1);
        int[] fits = {0, 0, 1, 1, 0, 0};
        for (int i = 0; i < fits.length; i++) {
            due("with one more before them, fits " + i, fits[i], x.proposal(i, 2));
        }
    }

    // ---- promise 17: fix

    static void promise17FixIsNoWithoutVerdict3() {
        refusedButFor(3, 3, "fix", Subject::fix, NO);
        idle("fix of nothing", Worlds::nothing, Subject::fix, NO);
        idle("fix twice", Worlds::fixed, Subject::fix, NO);
    }

    static void promise17FixIs0WithoutAProposal() {
        idle("too far", saying("take xyxyxy"), Subject::fix, 0);
        idle("one too far by one", x -> {
            Worlds.fixed(x);
            x.setting(5, 1);
            x.say("take lmap");
        }, Subject::fix, 0);
        idle("setting 7 at 0", x -> {
            Worlds.fixed(x);
            x.setting(7, 0);
            x.say("take lmap");
        }, Subject::fix, 0);
    }

    static void promise17FixIs2WithSetting6At0() {
        idle("setting 6 at 0", x -> {
            Worlds.fixed(x);
            x.setting(6, 0);
            x.say("take lmap");
        }, Subject::fix, 2);
    }

    static void promise17FixIs2WhenItWouldNotFit() {
        idle("no rule", saying("open lmap"), Subject::fix, 2);
        idle("another word is not in scope", saying("take key lmap"), Subject::fix, 2);
        idle("no verb", saying("lmap lamp"), Subject::fix, 2);
    }

    static void promise17FixIs2WhenTheVerbIsDangerous() {
        idle("the verb", saying("burn lmap"), Subject::fix, 2);
        idle("the word itself", saying("brun lamp"), Subject::fix, 2);
        Subject x = Twins.made(saying("burn lmap"));
        x.danger(BURN, false);
        due("not dangerous", 1, x.fix());
        x = Twins.made(saying("take lmap"));
        x.danger(OPEN, true);
        due("another one is", 1, x.fix());
    }

    /** Lamp by leaving out, and lampxx by putting in, for lampx: at these costs. */
    private static Twins.Run twoProposals(int leaveOut, int putIn) {
        return x -> {
            Worlds.small(x);
            x.tell("lampxx", LINK);
            x.setting(0, leaveOut);
            x.setting(1, putIn);
            x.setting(6, 1);
            x.setting(5, 9);
            x.say("take lampx");
        };
    }

    static void promise17FixNeedsALesserDistanceThanTheSecond() {
        Subject x = Twins.made(twoProposals(2, 3));
        due("two", 2, x.told(3));
        due("lesser by one", 1, x.fix());
        same("the first", "take lamp", x.text());
        idle("alike", twoProposals(3, 3), Subject::fix, 2);
        due("the first would fit", 1, Twins.made(twoProposals(3, 3)).proposal(0, 2));
        idle("the other is first, and does not fit", twoProposals(3, 2), Subject::fix, 2);
        x = Twins.made(twoProposals(3, 3));
        x.setting(5, 2);
        due("none", 0, x.fix());
    }

    static void promise17FixWithButOneProposal() {
        Subject x = Twins.made(saying("take the LMAP!"));
        due("but one", 1, x.told(3));
        due("fix", 1, x.fix());
        same("the line", "take the lamp!", x.text());
        due("the note", 2, x.told(8));
        due("the log", 3, x.count(3));
        due("verdict", 0, x.look());
    }

    /** But for the note it is as if the one proposal had been chosen. */
    static void promise17FixChangesTheLineAsChooseDoes() {
        Twins.Run fixing = x -> {
            saying("take lmap").on(x);
            x.fix();
            x.say("take lmpp");
        };
        Twins.Run choosing = x -> {
            saying("take lmap").on(x);
            x.choose(0);
            x.say("take lmpp");
        };
        Twins.same(check, "fix and choose", fixing, choosing);
    }

    static void promise17FixPutsTheFirstNameIn() {
        Subject x = Twins.made(Worlds::fixed);
        due("dor is learned", 2, x.learn(0));
        x.say("take dorr");
        due("nearest by dor", 2, x.proposal(0, 1));
        due("fix", 1, x.fix());
        same("the first name", "take door", x.text());
    }

    // ---- promise 18: choose

    static void promise18ChooseTakesTheFirstAndTheLast() {
        Subject x = Twins.made(Worlds::asking);
        int many = x.told(3);
        int last = x.proposal(many - 1, 0);
        due("the last", 6, x.choose(many - 1));
        due("it is there", last, x.typed(2, 2));
        x = Twins.made(Worlds::asking);
        due("the first", 6, x.choose(0));
        same("the line", "open the lamp with, lamp?", x.text());
    }

    static void promise18ChooseRefusesNoProposal() {
        int many = Twins.made(Worlds::asking).told(3);
        for (int i : new int[] {-1, many, many + 1, 59, 60, LEAST, MOST}) {
            idle("choose " + i, Worlds::asking, x -> x.choose(i), BAD);
        }
        refusedButFor(3, 3, "choose 0", x -> x.choose(0), BAD);
        idle("nothing is proposed", saying("take xyxyxy"), x -> x.choose(0), BAD);
        idle("nothing at all", Worlds::nothing, x -> x.choose(0), BAD);
    }

    static void promise18ChooseTwiceIsRefused() {
        idle("twice", x -> {
            Worlds.asking(x);
            x.choose(0);
        }, x -> x.choose(0), BAD);
    }

    static void promise18ChooseTellsTheVerdictThen() {
        String[] texts = {"take lmap", "open lmap", "lmap lamp", "take key lmap"};
        int[] verdicts = {0, 6, 4, 5};
        for (int i = 0; i < texts.length; i++) {
            Subject x = Twins.made(saying(texts[i]));
            due(texts[i], verdicts[i], x.choose(0));
            due("it stays", verdicts[i], x.look());
            due("no note", NONE, x.told(8));
        }
    }

    static void promise18ChooseTakesADangerousVerb() {
        String[] texts = {"burn lmmp", "brun lamp"};
        for (String text : texts) {
            Subject x = Twins.made(saying(text));
            due("fix asks", 2, x.fix());
            due("not in the log", 3, x.count(3));
            due("choose", 0, x.choose(0));
            same("done", "burn lamp", x.text());
            due("no note", NONE, x.told(8));
            due("in the log", 4, x.count(3));
        }
    }

    static void promise18ChooseTakesOneOfLikeDistances() {
        Subject x = Twins.made(twoProposals(3, 3));
        due("the second", 6, x.choose(1));
        same("it", "take lampxx", x.text());
    }

    static void promise18ChooseMakesTheLongestAndTheShortestLine() {
        Subject x = new Subject();
        x.tell("abcdefghijkl", VERB);
        x.setting(5, 60);
        x.say("a".concat(".".repeat(79)));
        due("choose", 6, x.choose(0));
        due("91 bytes", 91, x.count(5));
        due("the last of the name", 'l', x.at(11));
        due("the first behind", '.', x.at(12));
        due("the last", '.', x.at(90));
        due("behind", NONE, x.at(91));
        x.say(".".repeat(79).concat("a"));
        due("choose at the end", 6, x.choose(0));
        due("the last of the name", 'l', x.at(90));
        due("its place", 79, x.typed(0, 0));
        due("its letters", 12, x.typed(0, 1));

        x = new Subject();
        x.tell("a", VERB);
        x.setting(0, 1);
        x.setting(5, 60);
        x.say("a".repeat(61));
        due("choose", 6, x.choose(0));
        due("one byte", 1, x.count(5));
        due("it", 'a', x.at(0));
        due("behind", NONE, x.at(1));
    }

    static void promise18ChooseForTheFirstAndTheTenthWord() {
        Subject x = Twins.made(Worlds::small);
        x.say("tkae" + " the".repeat(8) + " lamp");
        due("the first", 0, x.choose(0));
        x.say("take" + " the".repeat(8) + " lmap");
        due("the tenth", 0, x.choose(0));
        due("it", LAMP, x.typed(9, 2));
    }

    // ---- promise 19: missing

    static void promise19MissingTakesTheFirstAndTheFourth() {
        Subject x = Twins.made(Worlds::small);
        int put = x.tell("put", VERB);
        x.tellRule(put, -2, WITH, -9, -1);
        x.say("put");
        int[] due = {-2, WITH, -9, -1};
        for (int i = 0; i < due.length; i++) {
            due("missing " + i, due[i], x.missing(i));
        }
        due("how many", 4, x.told(5));
        due("no fifth", BAD, x.missing(4));
        due("none before", BAD, x.missing(-1));
        x.say("put with");
        due("the second is there", -9, x.missing(1));
        due("three", 3, x.told(5));
        due("no fourth", BAD, x.missing(3));
    }

    static void promise19MissingRefusesNone() {
        for (int i : new int[] {-1, 1, 4, 5, LEAST, MOST}) {
            idle("missing " + i, Worlds::lacking, x -> x.missing(i), BAD);
        }
        for (int i : new int[] {-1, 0, 3, LEAST, MOST}) {
            refusedButFor(6, 6, "missing " + i, x -> x.missing(i), BAD);
        }
        idle("of nothing", Worlds::nothing, x -> x.missing(0), BAD);
    }

    static void promise19MissingMayBeMinus2() {
        idle("a thing of class 0", Worlds::lacking, x -> x.missing(0), -2);
        due("which is told apart", 1, Twins.made(Worlds::lacking).told(5));
    }

    static void promise19MissingOfAVerbWithoutRules() {
        idle("none", x -> {
            Worlds.fixed(x);
            x.tell("wait", VERB);
            x.say("wait lamp");
        }, x -> x.missing(0), BAD);
    }

    /** Which tokens are missing tells which way the pairs went. */
    static void promise19MissingByTheFirstOfSeveralWays() {
        Subject x = Twins.made(Worlds::small);
        int put = x.tell("put", VERB);
        x.tellRule(put, -1, -2, -1, -2);
        x.say("put door");
        missingIs(x, -2, -1, -2);
        x.say("put lamp");
        missingIs(x, -2, -1, -2);
        x.say("put lamp lamp");
        missingIs(x, -2, -2);
        x.say("put door door");
        missingIs(x, -1, -2);
        x.say("put lamp door");
        missingIs(x, -1, -2);
        x.say("put door lamp");
        missingIs(x, -2, -2);
        x.say("put lamp door door");
        missingIs(x, -2);
        x.say("put lamp lamp door");
        missingIs(x, -2);
    }

    static void promise19MissingByTheMostPairs() {
        Subject x = Twins.made(Worlds::small);
        int put = x.tell("put", VERB);
        int from = x.tell("from", LINK);
        x.tellRule(put, -2, WITH, from);
        x.say("put with from door door");
        due("the first token gives way to two others", 2, x.told(6));
        missingIs(x, -2);
        x.say("put lamp with from");
        due("the first word gives way", 1, x.told(6));
        missingIs(x, -2);
        x.say("put from with");
        due("one of two that cross", 1, x.told(6));
        missingIs(x, -2, from);
    }

    private static void missingIs(Subject x, int... due) {
        due("how many", due.length, x.told(5));
        for (int i = 0; i < due.length; i++) {
            due("missing " + i, due[i], x.missing(i));
        }
        due("behind", BAD, x.missing(due.length));
    }

    // ---- promise 20: hint

    private static void hintsAre(Subject x, String text, int... due) {
        x.say(text);
        due("'" + text + "' how many", due.length, x.told(7));
        for (int i = 0; i < due.length; i++) {
            due("'" + text + "' hint " + i, due[i], x.hint(i));
        }
        due("'" + text + "' behind", BAD, x.hint(due.length));
        due("'" + text + "' before", BAD, x.hint(-1));
    }

    static void promise20HintRefusesNone() {
        Twins.Run three = saying("the");
        idle("the last", three, x -> x.hint(2), BURN);
        for (int i : new int[] {-1, 3, 4, 59, 60, LEAST, MOST}) {
            idle("hint " + i, three, x -> x.hint(i), BAD);
        }
        for (int i : new int[] {-1, 0, LEAST, MOST}) {
            refusedButFor(1, 1, "hint " + i, x -> x.hint(i), BAD);
        }
    }

    static void promise20HintsOfNothingMeantAreVerbsWithARule() {
        Subject x = new Subject();
        hintsAre(x, "");
        int go = x.tell("go", VERB);
        hintsAre(x, "");
        x.rule(go);
        hintsAre(x, "", go);
        x.rule(go);
        hintsAre(x, ".", go);
        x.tell("well", IDLE);
        hintsAre(x, "well", go);
    }

    static void promise20HintsMayBe40Verbs() {
        Subject x = new Subject();
        for (int i = 0; i < 41; i++) {
            x.tell(Check.name(i), VERB);
        }
        for (int i = 40; i > 0; i--) {
            x.rule(i);
        }
        due("40", 40, x.told(7));
        for (int i = 0; i < 40; i++) {
            due("by numbers", i + 1, x.hint(i));
        }
        due("no 41st", BAD, x.hint(40));
    }

    static void promise20HintsMayBe59Things() {
        Subject x = new Subject();
        x.tell("go", VERB);
        x.tellRule(0, -1);
        for (int i = 1; i < 60; i++) {
            x.scope(x.tell(Check.name(i), THING), true);
        }
        x.say("go");
        due("59", 59, x.told(7));
        for (int i = 0; i < 59; i++) {
            due("by numbers", i + 1, x.hint(i));
        }
        due("no 60th", BAD, x.hint(59));
        x.scope(59, false);
        due("58", 58, x.told(7));
        due("not in scope", BAD, x.hint(58));
    }

    static void promise20HintsForEachTokenAndNoneBehindTheFourth() {
        Subject x = Twins.made(Worlds::small);
        int put = x.tell("put", VERB);
        x.tellRule(put, -1, WITH, -2, WITH);
        hintsAre(x, "put", LAMP, DOOR);
        hintsAre(x, "put lamp", WITH);
        hintsAre(x, "put lamp with", DOOR);
        hintsAre(x, "put lamp with door", WITH);
        hintsAre(x, "put lamp with door with");
        hintsAre(x, "put lamp with door with door");
        hintsAre(x, "put with");
        hintsAre(x, "put lamp with lamp");
        hintsAre(x, "put" + " lamp".repeat(9));
    }

    static void promise20HintsNeedAllKnownInScopeAndAVerb() {
        Subject x = Twins.made(Worlds::small);
        hintsAre(x, "open door", WITH);
        hintsAre(x, "open dor");
        hintsAre(x, "lamp");
        x.tellRule(TAKE, -1, -1);
        hintsAre(x, "take lamp", LAMP, DOOR);
        hintsAre(x, "take key");
        x.scope(KEY, true);
        hintsAre(x, "take key", LAMP, DOOR, KEY);
    }

    // ---- promise 21: verbs

    static void promise21VerbsIsBadForNoThing() {
        int[] words = {TAKE, BURN, WITH, THE, -1, Worlds.WORDS, 59, 60, LEAST, MOST};
        for (int word : words) {
            for (int i : new int[] {0, -1, 3, LEAST, MOST}) {
                idle("verbs of " + word, Worlds::fixed, x -> x.verbs(word, i), BAD);
            }
        }
    }

    static void promise21VerbsIsNoneForNoneSuch() {
        for (int i : new int[] {-1, 3, 40, LEAST, MOST}) {
            idle("verb " + i, Worlds::fixed, x -> x.verbs(DOOR, i), NONE);
        }
        idle("the last", Worlds::fixed, x -> x.verbs(DOOR, 2), BURN);
        idle("the last of lamp", Worlds::fixed, x -> x.verbs(LAMP, 1), BURN);
        idle("behind the last of lamp", Worlds::fixed, x -> x.verbs(LAMP, 2), NONE);
    }

    static void promise21VerbsOfAThingInScopeOrNot() {
        Subject x = Twins.made(Worlds::small);
        for (int on = 0; on <= 1; on++) {
            due("take", TAKE, x.verbs(KEY, 0));
            due("open", OPEN, x.verbs(KEY, 1));
            due("burn", BURN, x.verbs(KEY, 2));
            due("no more", NONE, x.verbs(KEY, 3));
            x.scope(KEY, true);
        }
        x.classes(KEY, 0);
        due("of no class", BURN, x.verbs(KEY, 1));
    }

    static void promise21VerbsMayBe40() {
        Subject x = new Subject();
        x.tell("cup", THING);
        for (int i = 1; i <= 40; i++) {
            x.tell(Check.name(i), VERB);
        }
        for (int i = 40; i >= 1; i--) {
            x.tellRule(i, -1);
        }
        for (int i = 0; i < 40; i++) {
            due("by numbers", i + 1, x.verbs(0, i));
        }
        due("no 41st", NONE, x.verbs(0, 40));
    }

    static void promise21VerbsByAnyTokenOfAnyRule() {
        Subject x = new Subject();
        x.tell("go", VERB);
        x.tell("cup", THING);
        x.tell("to", LINK);
        x.rule(0);
        due("no tokens", NONE, x.verbs(1, 0));
        x.tellRule(0, 2, 2, -9, -9);
        due("no such class", NONE, x.verbs(1, 0));
        x.classes(1, 128);
        due("the third token", 0, x.verbs(1, 0));
        due("but once", NONE, x.verbs(1, 1));
        x.classes(1, 127);
        x.tellRule(0, 2, 2, 2, -1);
        due("the fourth token", 0, x.verbs(1, 0));
    }

    static void promise21VerbsByTheTokensOfARuleAlone() {
        Subject x = new Subject();
        x.tell("cup", THING);
        x.tell("go", VERB);
        x.tell("put", VERB);
        x.tell("to", LINK);
        x.rule(1);
        due("thing 0 and a rule without tokens", NONE, x.verbs(0, 0));
        x.tellRule(1, 3, 3, 3, 3);
        x.tellRule(2, -1);
        due("four tokens, and the next rule's", 2, x.verbs(0, 0));
        for (int i = 3; i < 39; i++) {
            x.rule(1);
        }
        due("the 40th rule", 39, x.tellRule(1, 3, 3, 3, 3));
        due("its fourth is the last of all", 2, x.verbs(0, 0));
        due("no more", NONE, x.verbs(0, 1));
    }

    // ---- promise 22: edits

    static void promise22EditsTakesTheTenthWordAndThe60thWord() {
        Subject x = Twins.made(y -> Worlds.words(y, 60));
        x.say("a b c d e f g h i " + Check.name(59));
        due("the tenth and the 60th", 0, x.edits(9, 59));
        due("the first and the first", 4, x.edits(0, 0));
        due("no eleventh", BAD, x.edits(10, 0));
        due("no 61st", BAD, x.edits(0, 60));
    }

    static void promise22EditsRefusesNoTypedWordAndNoWord() {
        for (int k : new int[] {-1, 3, 9, 10, LEAST, MOST}) {
            idle("typed word " + k, Worlds::fixed, x -> x.edits(k, LAMP), BAD);
        }
        for (int word : new int[] {-1, Worlds.WORDS, 59, 60, LEAST, MOST}) {
            idle("word " + word, Worlds::fixed, x -> x.edits(0, word), BAD);
            idle("word " + word, Worlds::asking, x -> x.edits(0, word), BAD);
        }
        idle("no line", x -> {
            Worlds.fixed(x);
            x.line();
        }, x -> x.edits(0, 0), BAD);
    }

    static void promise22EditsTakesWordsOfAllKinds() {
        Subject x = Twins.made(Worlds::small);
        x.say("the");
        int[] due = {5, 8, 11, 11, 11, 6, 0, 7};
        for (int word = 0; word < due.length; word++) {
            due("to word " + word, due[word], x.edits(0, word));
        }
    }

    static void promise22EditsOfTheLongestWords() {
        Subject x = new Subject();
        x.tell("abcdefghijkl", VERB);
        x.tell("a", VERB);
        for (int what = 0; what <= 4; what++) {
            x.setting(what, 9);
        }
        x.say("z".repeat(80));
        due("80 to 12", 12 * 9 + 68 * 9, x.edits(0, 0));
        due("80 to 1", 80 * 9, x.edits(0, 1));
        x.say("a");
        due("1 to 12", 11 * 9, x.edits(0, 0));
        due("1 to 1", 0, x.edits(0, 1));
        for (int what = 0; what <= 4; what++) {
            x.setting(what, 1);
        }
        x.say("z".repeat(80));
        due("80 to 12 at 1", 80, x.edits(0, 0));
    }

    static void promise22EditsTakesTheCheapestActs() {
        Subject x = new Subject();
        x.tell("abcd", VERB);
        String[] typed = {"abcd", "abxcd", "abd", "axcd", "abdc", "badc", "", "dcba"};
        int[] due = {0, 2, 2, 3, 2, 4, 0, 8};
        for (int i = 0; i < typed.length; i++) {
            x.say(typed[i]);
            due("of '" + typed[i] + "'", typed[i].isEmpty() ? BAD : due[i], x.edits(0, 0));
        }
        x.setting(2, 4);
        x.say("axcd");
        due("a change at 4", 4, x.edits(0, 0));
        x.setting(2, 5);
        due("leaving out and putting in at 4", 4, x.edits(0, 0));
        x.say("abdc");
        x.setting(4, 4);
        due("a swap at 4", 4, x.edits(0, 0));
        x.setting(4, 5);
        due("without it at 4", 4, x.edits(0, 0));
        x.setting(4, 1);
        due("a swap at 1", 1, x.edits(0, 0));
    }

    static void promise22EditsHasEachLetterInOneAct() {
        Subject x = new Subject();
        x.tell("abc", VERB);
        x.tell("ac", VERB);
        x.setting(2, 9);
        x.setting(4, 1);
        x.say("cab ca cxa bca");
        due("cab is not swapped twice", 4, x.edits(0, 0));
        due("nothing is put in between ca", 6, x.edits(1, 0));
        due("nothing is left out between cxa", 6, x.edits(2, 1));
        due("bca is not swapped twice", 4, x.edits(3, 0));
        due("ca is swapped", 1, x.edits(1, 1));
    }

    static void promise22EditsOfNearLetters() {
        Subject x = new Subject();
        x.tell("ab", VERB);
        x.setting(2, 4);
        x.setting(3, 3);
        x.say("xb ba");
        due("not near", 4, x.edits(0, 0));
        x.near(23, 0);
        due("near", 3, x.edits(0, 0));
        x.setting(3, 4);
        due("near at 4", 4, x.edits(0, 0));
        x.setting(2, 3);
        due("a near letter is another one, too", 3, x.edits(0, 0));
        x.near(0, 1);
        due("a letter that stays costs nothing", 2, x.edits(1, 0));
    }

    static void promise22EditsToTheNearestName() {
        Subject x = Twins.made(Worlds::fixed);
        due("learned", 2, x.learn(0));
        x.setting(1, 2);
        x.say("dor door dr");
        due("the second name", 0, x.edits(0, DOOR));
        due("the first name", 0, x.edits(1, DOOR));
        due("the nearer", 2, x.edits(2, DOOR));
    }

    static void promise22EditsChangesTheCellsAlone() {
        Twins.Run asked = x -> {
            Worlds.fixed(x);
            x.edits(0, TAKE);
        };
        Twins.Run askedBefore = x -> {
            Worlds.fixed(x);
            x.edits(2, BURN);
            x.edits(1, WITH);
            x.edits(0, TAKE);
        };
        Twins.same(check, "the latest edits", askedBefore, asked);
    }

    // ---- promise 23: cell

    static void promise23CellThrowsBeforeEdits() {
        for (int i : new int[] {-1, 0, 1, LEAST, MOST}) {
            for (int j : new int[] {-1, 0, 1, LEAST, MOST}) {
                int column = j;
                idle("cell " + i + " " + j, Worlds::nothing, x -> x.cell(i, column), THROWS);
            }
        }
        Subject x = Twins.made(Worlds::small);
        x.say("take lamp");
        due("edits refused", BAD, x.edits(2, LAMP));
        due("still none", THROWS, x.cell(0, 0));
        x.say("take lmap");
        due("proposals", 1, x.told(3));
        due("are no edits", THROWS, x.cell(0, 0));
    }

    static void promise23CellThrowsForNoSuchLetters() {
        Twins.Run lamp = x -> {
            Worlds.fixed(x);
            x.setting(1, 2);
            x.say("lmapp");
            due("edits", 4, x.edits(0, LAMP));
        };
        for (int j = 0; j <= 4; j++) {
            int column = j;
            for (int i : new int[] {-1, 6, 80, 81, LEAST, MOST}) {
                idle("cell " + i + " " + j, lamp, x -> x.cell(i, column), THROWS);
            }
        }
        for (int i = 0; i <= 5; i++) {
            int row = i;
            for (int j : new int[] {-1, 5, 12, 13, LEAST, MOST}) {
                idle("cell " + i + " " + j, lamp, x -> x.cell(row, j), THROWS);
            }
        }
        idle("the first", lamp, x -> x.cell(0, 0), 0);
        idle("the last", lamp, x -> x.cell(5, 4), 4);
    }

    static void promise23CellOfTheFirstLetters() {
        Subject x = new Subject();
        x.tell("ab", VERB);
        x.setting(0, 1);
        x.setting(1, 5);
        x.say("ba");
        due("a swap", 2, x.edits(0, 0));
        int[][] due = {{0, 5, 10}, {1, 3, 5}, {2, 1, 2}};
        for (int i = 0; i <= 2; i++) {
            for (int j = 0; j <= 2; j++) {
                due("cell " + i + " " + j, due[i][j], x.cell(i, j));
            }
        }
    }

    static void promise23CellOfTheLongestWord() {
        Subject x = new Subject();
        x.tell("abcdefghijkl", VERB);
        x.say("a".repeat(80));
        int distance = x.edits(0, 0);
        due("the last", distance, x.cell(80, 12));
        due("the last row", 160, x.cell(80, 0));
        due("the last column", 24, x.cell(0, 12));
        due("behind the rows", THROWS, x.cell(81, 12));
        due("behind the columns", THROWS, x.cell(80, 13));
    }

    static void promise23CellOfTheLatestEditsThatWasNotBad() {
        Subject x = Twins.made(Worlds::small);
        x.say("lmap ke");
        due("edits", 2, x.edits(0, LAMP));
        due("refused", BAD, x.edits(2, LAMP));
        due("refused", BAD, x.edits(0, Worlds.WORDS));
        due("of lmap", 2, x.cell(4, 4));
        due("edits of less", 2, x.edits(1, KEY));
        due("of ke", 2, x.cell(2, 3));
        due("no third letter of it", THROWS, x.cell(3, 3));
        due("no fourth letter of key", THROWS, x.cell(2, 4));
    }

    static void promise23CellStaysWhenTheLineChanges() {
        Subject x = Twins.made(Worlds::small);
        x.say("take lmap");
        due("edits", 2, x.edits(1, LAMP));
        x.choose(0);
        x.setting(4, 9);
        x.setting(0, 9);
        x.line();
        due("as it was", 2, x.cell(4, 4));
        due("as it was", 8, x.cell(4, 0));
        due("as long as it was", THROWS, x.cell(5, 0));
    }

    static void promise23CellOfTheNearestNameOfLikeOnesTheFirst() {
        Subject x = Twins.made(Worlds::fixed);
        due("dor is learned", 2, x.learn(0));
        x.setting(1, 2);
        x.say("dr doorr dorr");
        due("by dor", 2, x.edits(0, DOOR));
        due("three letters", THROWS, x.cell(0, 4));
        due("by door", 2, x.edits(1, DOOR));
        due("four letters", 8, x.cell(0, 4));
        due("dor at 2, door at 3", 2, x.edits(2, DOOR));
        due("three letters", THROWS, x.cell(0, 4));
        x.setting(2, 2);
        due("both at 2", 2, x.edits(2, DOOR));
        due("the first told has four letters", 8, x.cell(0, 4));
    }
}
