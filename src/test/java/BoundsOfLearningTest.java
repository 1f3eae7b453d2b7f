/** Promises 24 to 27 at their bounds: the log, what is put forward and learned, and the counts. */
public final class BoundsOfLearningTest {
    private static final int BAD = Subject.BAD, NO = Subject.NO, FULL = Subject.FULL;
    private static final int LEAST = Integer.MIN_VALUE, MOST = Integer.MAX_VALUE;
    private static final int VERB = Worlds.VERB, LINK = Worlds.LINK;
    private static final int TAKE = Worlds.TAKE, LAMP = Worlds.LAMP, DOOR = Worlds.DOOR;

    private static final Check check = new Check();

    public static void main(String[] args) {
        check.runTests(BoundsOfLearningTest.class);
        check.end("BoundsOfLearningTest");
    }

    private static void due(String call, int want, int got) {
        check.due(call, want, got);
    }

    private static void same(String call, String want, String got) {
        check.due(call + ": '" + got + "' is '" + want + "', which", 1, want.equals(got) ? 1 : 0);
    }

    private static void idle(String name, Twins.Run world, Twins.Call call, int due) {
        Twins.idle(check, name, world, call, due);
    }

    // ---- promise 24: forward

    static void promise24ForwardFromACountOfSetting8() {
        for (int least = 1; least <= 9; least++) {
            Subject x = Twins.made(Worlds::small);
            x.setting(8, least);
            x.chooseOften("take lmap", least - 1);
            due("one less than " + least, 0, x.forward());
            x.chooseOften("take lmap", 1);
            due("as many as " + least, 1, x.forward());
            x.chooseOften("take lmap", 1);
            due("one more than " + least, 1, x.forward());
            due("which is told", least + 1, x.pair(0, 1));
        }
    }

    static void promise24ForwardFollowsSetting8() {
        Subject x = Twins.made(Worlds::small);
        x.chooseOften("take lmap", 1);
        x.chooseOften("tkae lamp", 2);
        x.chooseOften("take dorr", 3);
        int[] due = {3, 2, 1, 0};
        for (int least = 1; least <= 4; least++) {
            x.setting(8, least);
            due("from " + least, due[least - 1], x.forward());
        }
        x.setting(8, 1);
        due("all again", 3, x.forward());
    }

    static void promise24ForwardChangesNothing() {
        idle("forward", Worlds::fixed, Subject::forward, 1);
        idle("forward of nothing", Worlds::nothing, Subject::forward, 0);
    }

    static void promise24ForwardCountsFixingAndChoosing() {
        Subject x = Twins.made(Worlds::small);
        x.setting(8, 2);
        x.setting(6, 1);
        x.say("take lmap");
        due("fixed", 1, x.fix());
        due("once", 0, x.forward());
        x.say("burn LMAP");
        due("asked", 2, x.fix());
        due("which does not count", 0, x.forward());
        due("chosen", 0, x.choose(0));
        due("twice", 1, x.forward());
        due("one pair", 1, x.count(3));
    }

    static void promise24LogTakes40PairsAndNo41st() {
        Subject x = Twins.made(y -> Worlds.pairs(y, 39));
        due("39", 39, x.count(3));
        x.chooseOften("axy", 1);
        due("the 40th", 40, x.count(3));
        x.chooseOften("axz", 1);
        due("no 41st", 40, x.count(3));
        due("all forward", 40, x.forward());
        same("the line is changed all the same", "a", x.text());
        x.chooseOften("axy", 2);
        due("the 40th is counted still", 3, x.pair(39, 1));
        due("so is the line", 6, x.look());
    }

    static void promise24LogThatIsFullKeepsItsPairs() {
        Twins.Run full = x -> {
            Worlds.pairs(x, 40);
            x.say("aa");
        };
        Twins.Run more = x -> {
            Worlds.pairs(x, 40);
            x.chooseOften("axz", 2);
            x.say("aa");
        };
        Twins.same(check, "more pairs", more, full);
    }

    static void promise24LogTakesWordsOf12LettersAndNot13() {
        Subject x = Twins.made(Worlds::small);
        x.setting(5, 60);
        x.setting(8, 1);
        x.chooseOften("take " + "lamp".repeat(3), 1);
        due("twelve", 1, x.count(3));
        due("letters", 12, x.pair(0, 2));
        due("the twelfth", 'p' - 'a', x.pair(0, 14));
        x.chooseOften("take l" + "lamp".repeat(3), 1);
        same("thirteen are chosen for", "take lamp", x.text());
        due("and not counted", 1, x.count(3));
        x.setting(0, 1);
        x.chooseOften("l".repeat(63), 1);
        due("nor are more", 1, x.count(3));
        x.chooseOften("take " + "lamp".repeat(3), 1);
        due("the twelve are", 2, x.pair(0, 1));
    }

    static void promise24LogTakesFixedWordsOf12LettersAndNot13() {
        Subject x = Twins.made(Worlds::small);
        x.setting(5, 60);
        x.setting(6, 1);
        x.say("take lamp" + "p".repeat(8));
        due("twelve are fixed", 1, x.fix());
        due("and counted", 1, x.count(3));
        x.say("take lamp" + "p".repeat(9));
        due("thirteen are fixed", 1, x.fix());
        due("and not counted", 1, x.count(3));
        due("the note", 1, x.told(8));
    }

    static void promise24LogHasAPairForEachWord() {
        Subject x = Twins.made(Worlds::small);
        x.setting(8, 1);
        x.tell("lamb", LINK);
        x.say("take lamm");
        x.choose(0);
        x.say("take LAMM");
        x.choose(1);
        due("two pairs", 2, x.count(3));
        due("of the one", LAMP, x.pair(0, 0));
        due("of the other", Worlds.WORDS, x.pair(1, 0));
        x.say("take lAmM");
        x.choose(1);
        due("capitals or not", 2, x.pair(1, 1));
    }

    // ---- promise 25: pair

    static void promise25PairTakesTheFirstAndThe40th() {
        Subject x = Twins.made(y -> Worlds.pairs(y, 40));
        due("the first", 0, x.pair(0, 5));
        due("the 40th", 39 % 26, x.pair(39, 6));
        due("its letters", 4, x.pair(39, 2));
        due("no 41st", BAD, x.pair(40, 0));
        due("none before", BAD, x.pair(-1, 0));
    }

    static void promise25PairRefusesNoPair() {
        for (int i : new int[] {-1, 1, 2, 39, 40, LEAST, MOST}) {
            for (int what : new int[] {0, 1, 2, 3, 5}) {
                idle("pair " + i + " " + what, Worlds::fixed, x -> x.pair(i, what), BAD);
            }
        }
        due("there are more in the log", 3, Twins.made(Worlds::fixed).count(3));
    }

    static void promise25PairTellsItsWordCountAndLetters() {
        int[] due = {DOOR, 3, 3, 'd' - 'a', 'o' - 'a', 'r' - 'a'};
        for (int what = 0; what < due.length; what++) {
            int which = what;
            idle("what " + what, Worlds::fixed, x -> x.pair(0, which), due[what]);
        }
    }

    static void promise25PairRefusesNoSuchLetter() {
        for (int what : new int[] {6, 7, 14, 15, MOST, MOST - 2, LEAST, LEAST + 2, -1}) {
            idle("what " + what, Worlds::fixed, x -> x.pair(0, what), BAD);
        }
    }

    static void promise25PairOf1And12Letters() {
        Subject x = new Subject();
        x.setting(8, 1);
        x.setting(5, 60);
        x.tell("az", VERB);
        x.chooseOften("z", 1);
        x.chooseOften("Z".repeat(11) + "a", 1);
        due("one letter", 1, x.pair(0, 2));
        due("which is the last of all", 25, x.pair(0, 3));
        due("no second", BAD, x.pair(0, 4));
        due("twelve letters", 12, x.pair(1, 2));
        due("the eleventh", 25, x.pair(1, 13));
        due("the twelfth is the first of all", 0, x.pair(1, 14));
        due("no thirteenth", BAD, x.pair(1, 15));
    }

    static void promise25PairsAreThoseForwardInTheOrderOfTheLog() {
        Subject x = Twins.made(Worlds::small);
        x.chooseOften("take lmap", 3);
        x.chooseOften("tkae lamp", 2);
        x.chooseOften("take dorr", 4);
        due("the first", LAMP, x.pair(0, 0));
        due("the third is next", DOOR, x.pair(1, 0));
        due("no more", BAD, x.pair(2, 0));
        x.chooseOften("tkae lamp", 1);
        due("the second is between them now", TAKE, x.pair(1, 0));
        due("the third moves on", DOOR, x.pair(2, 0));
    }

    // ---- promise 26: learn

    static void promise26LearnTakesTheFirstAndThe40th() {
        Subject x = Twins.made(y -> Worlds.pairs(y, 40));
        due("the 40th", 2, x.learn(39));
        due("the first", 3, x.learn(0));
        due("38 are left", 38, x.count(3));
        due("no 39th", BAD, x.learn(38));
        due("the last of them", 4, x.learn(37));
        due("the second is the first now", 1, x.pair(0, 6));
        due("names", 4, x.count(2));
        due("words", 1, x.count(0));
        x.say("a" + Check.name(39));
        due("it is known", 0, x.typed(0, 2));
    }

    static void promise26LearnRefusesNoPair() {
        for (int i : new int[] {-1, 1, 2, 39, 40, LEAST, MOST}) {
            idle("learn " + i, Worlds::fixed, x -> x.learn(i), BAD);
        }
        idle("learn of nothing", Worlds::nothing, x -> x.learn(0), BAD);
    }

    static void promise26LearnRefusesWhatIsNotForward() {
        Twins.Run notForward = x -> {
            Worlds.fixed(x);
            x.setting(8, 4);
        };
        idle("three of four", notForward, x -> x.learn(0), BAD);
        due("three of three", 2, Twins.made(Worlds::fixed).learn(0));
    }

    static void promise26LearnIsNoForWhatIsANameByNow() {
        Twins.Run toldSince = x -> {
            Worlds.fixed(x);
            x.tell("dor", LINK);
        };
        idle("told since", toldSince, x -> x.learn(0), NO);
        due("the pair stays", 3, Twins.made(toldSince).count(3));
        due("it stays that word's", Worlds.WORDS, Twins.made(x -> {
            toldSince.on(x);
            x.learn(0);
            x.say("dor");
        }).typed(0, 2));
    }

    static void promise26LearnTakesAllPairsOfWhatWasTypedOut() {
        Subject x = Twins.made(Worlds::small);
        x.tell("lamb", LINK);
        x.setting(8, 1);
        x.chooseOften("tkae lamp", 1);
        x.chooseOften("take lamm", 2);
        x.say("take lamm");
        x.choose(1);
        x.chooseOften("take doorr", 1);
        due("four pairs", 4, x.count(3));
        due("learn the second of them", 2, x.learn(2));
        due("two are left", 2, x.count(3));
        due("the one before", TAKE, x.pair(0, 0));
        due("the one behind", DOOR, x.pair(1, 0));
        due("with its letters", 5, x.pair(1, 2));
        x.say("lamm");
        due("of the word that was learned", Worlds.WORDS, x.typed(0, 2));
    }

    static void promise26LearnMakesRoomInTheLog() {
        Subject x = Twins.made(y -> Worlds.pairs(y, 40));
        x.chooseOften("axy", 1);
        due("full", 40, x.count(3));
        x.learn(20);
        due("39", 39, x.count(3));
        x.chooseOften("axy", 1);
        due("40 again", 40, x.count(3));
        due("the last", 'y' - 'a', x.pair(39, 5));
        due("of three letters", BAD, x.pair(39, 6));
        due("the 21st moved up", 21, x.pair(20, 6));
    }

    static void promise26LearnTakes90NamesAndNo91st() {
        Subject x = Twins.made(y -> {
            Worlds.names(y, 59, 89);
            y.chooseOften("axy", 1);
            y.chooseOften("axz", 1);
        });
        due("89", 89, x.count(2));
        due("the 90th", 32, x.learn(0));
        due("90", 90, x.count(2));
        due("no 91st", FULL, x.learn(0));
        due("the pair stays", 1, x.count(3));
    }

    private static void full(Subject x) {
        Worlds.names(x, 58, 89);
        x.chooseOften("axy", 1);
        x.chooseOften("axz", 1);
        due("the 90th", 58, x.tell("axz", VERB));
    }

    static void promise26LearnIsBadBeforeNoBeforeFull() {
        Twins.Run run = BoundsOfLearningTest::full;
        idle("full", run, x -> x.learn(0), FULL);
        idle("no before full", run, x -> x.learn(1), NO);
        idle("bad before full", run, x -> x.learn(2), BAD);
        idle("bad before full", run, x -> x.learn(-1), BAD);
        idle("bad before no", x -> {
            full(x);
            x.setting(8, 2);
        }, x -> x.learn(1), BAD);
    }

    static void promise26LearnChangesWhatIsKnownAtOnce() {
        Subject x = Twins.made(Worlds::fixed);
        x.say("take dor");
        due("not known", 3, x.look());
        due("learn", 2, x.learn(0));
        due("known", 0, x.look());
        same("as it was typed", "take dor", x.text());
        due("names", Worlds.WORDS + 1, x.count(2));
        due("none forward", 0, x.forward());
    }

    // ---- promise 27: count

    static void promise27CountRefusesOtherThanWhat0To6() {
        for (int what : new int[] {-1, 7, 8, LEAST, MOST}) {
            idle("count " + what, Worlds::fixed, x -> x.count(what), BAD);
            idle("count " + what, Worlds::nothing, x -> x.count(what), BAD);
        }
    }

    static void promise27CountChangesNothing() {
        int[] due = {Worlds.WORDS, Worlds.RULES, Worlds.WORDS, 3, 2, 14, 3};
        for (int what = 0; what <= 6; what++) {
            int which = what;
            idle("count " + what, Worlds::fixed, x -> x.count(which), due[what]);
        }
    }

    static void promise27CountAtTheMost() {
        Subject x = Twins.made(y -> Worlds.words(y, 60));
        due("60 words", 60, x.count(0));
        for (int i = 0; i < 41; i++) {
            x.rule(0);
        }
        due("40 rules", 40, x.count(1));
        x.feed("a".repeat(80));
        due("80 bytes of the tape", 80, x.count(4));
        x.line();
        due("80 bytes of the line", 80, x.count(5));
        x.say("a ".repeat(10));
        due("10 typed words", 10, x.count(6));
        due("90 names", 90, Twins.made(y -> Worlds.names(y, 59, 90)).count(2));
        due("40 pairs", 40, Twins.made(y -> Worlds.pairs(y, 41)).count(3));
    }

    static void promise27CountOfALineThatWasFixed() {
        Subject x = Twins.made(Worlds::fixed);
        x.say("take lmp");
        due("bytes", 8, x.count(5));
        due("fix", 1, x.fix());
        due("one more", 9, x.count(5));
        due("as many words", 2, x.count(6));
        due("the tape", 0, x.count(4));
    }
}
