/** Each promise of the document by hand: ordinary inputs, the edges it names, wrong inputs. */
public final class PromisesTest {
    private static final int NONE = -1, BAD = -2, NO = -3, FULL = -4, THROWS = Integer.MIN_VALUE;
    private static final int TAKE = 0, OPEN = 1, BURN = 2, LAMP = 3, DOOR = 4, WITH = 5, THE = 6, KEY = 7;

    private static final Check check = new Check();

    public static void main(String[] args) {
        aNewObject();
        feed();
        word();
        wordsFull();
        scope();
        classes();
        danger();
        rule();
        token();
        setting();
        near();
        line();
        at();
        typed();
        look();
        told();
        proposal();
        proposalLimits();
        proposalOrder();
        fix();
        fixAsks();
        choose();
        missing();
        nearestRule();
        hint();
        verbs();
        edits();
        editsNear();
        cell();
        forward();
        pair();
        logFull();
        learn();
        learnRefusals();
        count();
        longestLine();
        check.end("PromisesTest");
    }

    private static void due(String call, long want, long got) {
        check.due(call, want, got);
    }

    private static void same(String call, String want, String got) {
        check.due(call + " is '" + got + "', due is '" + want + "'; equal", 1, want.equals(got) ? 1 : 0);
    }

    /** Three verbs, of which burn is dangerous, and things lamp, door (class 0), key (class 2, not in scope). */
    private static MisspellHelp world() {
        MisspellHelp x = new MisspellHelp();
        Check.word(x, "take", 0);
        Check.word(x, "open", 0);
        Check.word(x, "burn", 0);
        Check.word(x, "lamp", 1);
        Check.word(x, "door", 1);
        Check.word(x, "with", 2);
        Check.word(x, "the", 3);
        Check.word(x, "key", 1);
        x.scope(LAMP, true);
        x.scope(DOOR, true);
        x.classes(DOOR, 1);
        x.classes(KEY, 4);
        x.danger(BURN, true);
        rule(x, TAKE, -1);
        rule(x, OPEN, -2);
        rule(x, OPEN, -2, WITH, -4);
        rule(x, BURN, -1);
        return x;
    }

    private static int rule(MisspellHelp x, int verb, int... tokens) {
        int rule = x.rule(verb);
        for (int token : tokens) {
            x.token(rule, token);
        }
        return rule;
    }

    private static void aNewObject() {
        MisspellHelp x = new MisspellHelp();
        for (int what = 0; what <= 6; what++) {
            due("new: count " + what, 0, x.count(what));
        }
        due("new: look", 1, x.look());
        int[] told = {0, NONE, NONE, 0, NONE, 0, 0, 0, NONE};
        for (int what = 0; what < told.length; what++) {
            due("new: told " + what, told[what], x.told(what));
        }
        int[] settings = {2, 2, 3, 2, 2, 4, 0, 1, 3};
        for (int what = 0; what < settings.length; what++) {
            due("new: setting " + what, settings[what], x.setting(what, 1));
        }
        for (int a = 0; a < 26; a++) {
            for (int b = a + 1; b < 26; b++) {
                due("new: near " + a + " " + b, 1, x.near(a, b));
            }
        }
        due("new: at 0", NONE, x.at(0));
        due("new: typed", BAD, x.typed(0, 0));
        due("new: fix", NO, x.fix());
        due("new: choose", BAD, x.choose(0));
        due("new: edits", BAD, x.edits(0, 0));
        due("new: cell", THROWS, Check.cell(x, 0, 0));
        due("new: line of nothing", 0, x.line());
    }

    private static void feed() {
        MisspellHelp x = new MisspellHelp();
        due("feed 0", BAD, x.feed(0, 1));
        due("feed 9", BAD, x.feed(9, 1));
        due("feed -1", BAD, x.feed(-1, 1));
        due("feed least", BAD, x.feed(Integer.MIN_VALUE, 1));
        due("feed refused", 0, x.count(4));
        due("feed 8", 8, x.feed(8, 0xff01027f80fe0041L));
        due("feed 2", 10, x.feed(2, 0x112233L));
        due("feed line", 1, x.line());
        int[] bytes = {255, 1, 2, 127, 128, 254, 0, 65, 0x22, 0x33, NONE};
        for (int i = 0; i < bytes.length; i++) {
            due("feed: at " + i, bytes[i], x.at(i));
        }
        for (int i = 1; i <= 9; i++) {
            due("feed fills", 8 * i, x.feed(8, 0));
        }
        due("feed 73", 73, x.feed(1, 7));
        due("feed past the end", FULL, x.feed(8, 0));
        due("feed bad before full", BAD, x.feed(9, 0));
        due("feed refused changes nothing", 73, x.count(4));
        due("feed to the end", 80, x.feed(7, 0));
        due("feed full", FULL, x.feed(1, 0));
    }

    private static void word() {
        MisspellHelp x = new MisspellHelp();
        due("word verb", 0, Check.word(x, "go", 0));
        due("word thing", 1, Check.word(x, "abcdefghijkl", 1));
        due("word link", 2, Check.word(x, "z", 2));
        due("word idle", 3, Check.word(x, "a", 3));
        due("word kind 4", BAD, Check.word(x, "new", 4));
        due("word kind -1", BAD, Check.word(x, "new", -1));
        due("word empties the tape", 0, x.count(4));
        due("word no name", BAD, x.word(0));
        due("word thirteen", BAD, Check.word(x, "abcdefghijklm", 0));
        due("word capital", BAD, Check.word(x, "New", 0));
        due("word space", BAD, Check.word(x, "ne w", 0));
        due("word before a", BAD, Check.word(x, "`", 0));
        due("word behind z", BAD, Check.word(x, "{", 0));
        due("word high byte", BAD, Check.word(x, "\u00e1", 0));
        due("word empties the tape when bad", 0, x.count(4));
        due("word again", NO, Check.word(x, "go", 1));
        due("word bad before no", BAD, Check.word(x, "go", 7));
        due("word empties the tape when no", 0, x.count(4));
        due("word count", 4, x.count(0));
        due("word names", 4, x.count(2));
        due("word prefix is another", 4, Check.word(x, "g", 0));
    }

    private static void wordsFull() {
        MisspellHelp x = new MisspellHelp();
        for (int i = 0; i < 60; i++) {
            due("60 words", i, Check.word(x, Check.name(i), i % 4));
        }
        due("61st word", FULL, Check.word(x, "zzz", 0));
        due("full empties the tape", 0, x.count(4));
        due("no before full", NO, Check.word(x, Check.name(7), 0));
        due("bad before full", BAD, Check.word(x, "zz z", 0));
        due("60 words stay", 60, x.count(0));
    }

    private static void scope() {
        MisspellHelp x = world();
        due("scope at first", 0, x.scope(KEY, false));
        due("scope on", 0, x.scope(KEY, true));
        due("scope was on", 1, x.scope(KEY, true));
        due("scope off", 1, x.scope(KEY, false));
        for (int word : new int[] {TAKE, WITH, THE, -1, 8, 60, Integer.MAX_VALUE, Integer.MIN_VALUE}) {
            due("scope of " + word, BAD, x.scope(word, true));
        }
        Check.line(x, "take key");
        due("out of scope", 5, x.look());
        x.scope(KEY, true);
        due("in scope", 0, x.look());
    }

    private static void classes() {
        MisspellHelp x = world();
        due("classes at first", 0, x.classes(LAMP, 255));
        due("classes all", 255, x.classes(LAMP, 128));
        due("classes 256", BAD, x.classes(LAMP, 256));
        due("classes -1", BAD, x.classes(LAMP, -1));
        due("classes kept", 128, x.classes(LAMP, 0));
        for (int word : new int[] {TAKE, WITH, THE, -1, 8, 60}) {
            due("classes of " + word, BAD, x.classes(word, 1));
        }
        int rule = rule(x, TAKE, -9, -9);
        Check.line(x, "take lamp lamp");
        due("not of class 7", 6, x.look());
        x.classes(LAMP, 128);
        due("of class 7", 0, x.look());
        due("its rule", rule, x.told(2));
        x.classes(LAMP, 127);
        due("of all but class 7", 6, x.look());
    }

    private static void danger() {
        MisspellHelp x = world();
        due("danger at first", 0, x.danger(TAKE, false));
        due("danger on", 0, x.danger(TAKE, true));
        due("danger was on", 1, x.danger(TAKE, false));
        due("danger off", 0, x.danger(TAKE, false));
        for (int word : new int[] {LAMP, WITH, THE, -1, 8, 60}) {
            due("danger of " + word, BAD, x.danger(word, true));
        }
    }

    private static void rule() {
        MisspellHelp x = world();
        for (int word : new int[] {LAMP, WITH, THE, -1, 8, 60, Integer.MIN_VALUE}) {
            due("rule of " + word, BAD, x.rule(word));
        }
        due("rules", 4, x.count(1));
        for (int i = 4; i < 40; i++) {
            due("rule", i, x.rule(TAKE));
        }
        due("41st rule", FULL, x.rule(TAKE));
        due("bad before full", BAD, x.rule(LAMP));
        due("40 rules", 40, x.count(1));
        due("token of the last", 1, x.token(39, -1));
        due("token behind the last", BAD, x.token(40, -1));
    }

    private static void token() {
        MisspellHelp x = world();
        int rule = x.rule(TAKE);
        due("a rule without tokens", 0, looked(x, "take"));
        due("no rule", BAD, x.token(rule + 1, -1));
        due("rule -1", BAD, x.token(-1, -1));
        for (int token : new int[] {TAKE, LAMP, THE, 8, 60, -10, Integer.MIN_VALUE, Integer.MAX_VALUE}) {
            due("token " + token, BAD, x.token(rule, token));
        }
        due("token -1", 1, x.token(rule, -1));
        due("token -2", 2, x.token(rule, -2));
        due("token -9", 3, x.token(rule, -9));
        due("token with", 4, x.token(rule, WITH));
        due("fifth token", FULL, x.token(rule, -1));
        due("bad before full", BAD, x.token(rule, LAMP));
        x.classes(LAMP, 128);
        due("fits the four", 0, looked(x, "take lamp door lamp with"));
        due("five do not fit", 6, looked(x, "take lamp door lamp with lamp"));
    }

    private static int looked(MisspellHelp x, String text) {
        Check.line(x, text);
        return x.look();
    }

    private static void setting() {
        int[] least = {1, 1, 1, 1, 1, 0, 0, 0, 1};
        int[] most = {9, 9, 9, 9, 9, 60, 1, 1, 9};
        int[] first = {2, 2, 3, 2, 2, 4, 0, 1, 3};
        MisspellHelp x = new MisspellHelp();
        for (int what = 0; what < 9; what++) {
            due("setting below " + what, BAD, x.setting(what, least[what] - 1));
            due("setting above " + what, BAD, x.setting(what, most[what] + 1));
            due("setting least " + what, first[what], x.setting(what, least[what]));
            due("setting most " + what, least[what], x.setting(what, most[what]));
            due("setting again " + what, most[what], x.setting(what, most[what]));
        }
        due("setting -1", BAD, x.setting(-1, 1));
        due("setting 9", BAD, x.setting(9, 1));
        due("setting least", BAD, x.setting(Integer.MIN_VALUE, 1));
    }

    private static void near() {
        MisspellHelp x = new MisspellHelp();
        due("near", 1, x.near(0, 25));
        due("near again", 0, x.near(0, 25));
        due("near turned", 0, x.near(25, 0));
        due("near another", 1, x.near(25, 1));
        due("near -1", BAD, x.near(-1, 3));
        due("near 26", BAD, x.near(3, 26));
        due("near 26 first", BAD, x.near(26, 3));
        due("near -1 second", BAD, x.near(3, -1));
        due("near itself", BAD, x.near(4, 4));
    }

    private static void line() {
        MisspellHelp x = world();
        due("line", 3, Check.line(x, "  take,the2LAMP!"));
        due("line empties the tape", 0, x.count(4));
        due("capitals are known", 0, x.look());
        due("ten words", 10, Check.line(x, "a b c d e f g h i j"));
        due("eleven words", FULL, Check.line(x, "a b c d e f g h i j kk"));
        due("full empties the tape", 0, x.count(4));
        same("full keeps the line", "a b c d e f g h i j", Check.text(x));
        due("full keeps the words", 10, x.count(6));
        due("the last letters", 1, Check.line(x, "azAZ"));
        due("no words", 0, Check.line(x, "@[`{\u00c1"));
        due("five bytes", 5, x.count(5));
        due("empty line", 0, x.line());
        due("no bytes", 0, x.count(5));
        x.setting(6, 1);
        Check.line(x, "take lmap");
        due("fixed", 1, x.fix());
        due("a refused line keeps the note", FULL, Check.line(x, "a b c d e f g h i j k"));
        due("the note", 1, x.told(8));
        Check.line(x, "take lamp");
        due("no note for a new line", NONE, x.told(8));
    }

    private static void at() {
        MisspellHelp x = world();
        Check.line(x, "aZ\u00ff");
        due("at 0", 'a', x.at(0));
        due("at 1 stays a capital", 'Z', x.at(1));
        due("at 2 is no sign", 255, x.at(2));
        due("at 3", NONE, x.at(3));
        due("at -1", NONE, x.at(-1));
        due("at most", NONE, x.at(Integer.MAX_VALUE));
        due("at least", NONE, x.at(Integer.MIN_VALUE));
        Check.line(x, "b");
        due("at of the line before", NONE, x.at(1));
    }

    private static void typed() {
        MisspellHelp x = world();
        Check.line(x, " The  laMp's take");
        int[][] due = {{1, 3, THE}, {6, 4, LAMP}, {11, 1, NONE}, {13, 4, TAKE}};
        for (int k = 0; k < due.length; k++) {
            for (int what = 0; what < 3; what++) {
                due("typed " + k + " " + what, due[k][what], x.typed(k, what));
            }
            due("typed what 3", BAD, x.typed(k, 3));
            due("typed what -1", BAD, x.typed(k, -1));
        }
        due("typed 4", BAD, x.typed(4, 0));
        due("typed -1", BAD, x.typed(-1, 0));
    }

    private static void look() {
        MisspellHelp x = world();
        due("idle alone", 1, looked(x, "the, the"));
        due("two unknown", 2, looked(x, "take foo bar"));
        due("one word twice unknown", 2, looked(x, "take foo foo"));
        due("unknown before no verb", 3, looked(x, "lamp foo"));
        due("unknown before scope", 3, looked(x, "take key foo"));
        due("no verb", 4, looked(x, "lamp take"));
        due("no verb before scope", 4, looked(x, "with key"));
        due("a thing out of scope as first", 4, looked(x, "key"));
        due("not in scope", 5, looked(x, "take key"));
        due("fits", 0, looked(x, "TAKE the Lamp"));
        due("fits no rule", 6, looked(x, "take"));
        due("class", 6, looked(x, "open lamp"));
        x.scope(KEY, true);
        due("longest rule", 0, looked(x, "open the door with the key"));
        due("a verb is as no token", 6, looked(x, "take burn"));
        due("a link is no thing", 6, looked(x, "take with"));
        x.classes(KEY, 0);
        due("not of the class", 6, looked(x, "open the door with the key"));
    }

    private static void told() {
        MisspellHelp x = world();
        toldIs(x, "the foo take bar lamp", 4, 1, NONE, 0, NONE, 0, 0, 0, NONE);
        toldIs(x, "take the foo", 2, 2, NONE, 0, NONE, 0, 0, 0, NONE);
        toldIs(x, "take the lmap", 2, 2, NONE, 1, NONE, 0, 0, 0, NONE);
        toldIs(x, "the lamp take", 2, 1, NONE, 0, NONE, 0, 0, 0, NONE);
        toldIs(x, "take lamp the key key", 4, 3, NONE, 0, NONE, 0, 0, 0, NONE);
        toldIs(x, "open door", 2, NONE, 1, 0, 1, 0, 0, 1, NONE);
        toldIs(x, "open with the lamp", 3, NONE, NONE, 0, 1, 1, 2, 0, NONE);
        toldIs(x, "the", 0, NONE, NONE, 0, NONE, 0, 0, 3, NONE);
        int lone = Check.word(x, "wait", 0);
        toldIs(x, "wait lamp", 2, NONE, NONE, 0, NONE, 0, 0, 0, NONE);
        due("a verb without a rule", 6, x.look());
        due("its first missing", BAD, x.missing(0));
        x.rule(lone);
        toldIs(x, "wait lamp", 2, NONE, NONE, 0, 4, 0, 1, 0, NONE);
        toldIs(x, "wait", 1, NONE, 4, 0, 4, 0, 0, 0, NONE);
        x.setting(6, 1);
        Check.line(x, "the take lmap");
        due("fixing", 1, x.fix());
        due("told 8", 2, x.told(8));
        due("told 9", BAD, x.told(9));
        due("told -1", BAD, x.told(-1));
    }

    private static void toldIs(MisspellHelp x, String text, int... due) {
        Check.line(x, text);
        for (int what = 0; what < due.length; what++) {
            due("'" + text + "' told " + what, due[what], x.told(what));
        }
    }

    private static void proposal() {
        MisspellHelp x = world();
        Check.line(x, "take the Lmap");
        due("word", LAMP, x.proposal(0, 0));
        due("distance", 2, x.proposal(0, 1));
        due("fits", 1, x.proposal(0, 2));
        due("what 3", BAD, x.proposal(0, 3));
        due("what -1", BAD, x.proposal(0, -1));
        due("no second", BAD, x.proposal(1, 0));
        due("no -1", BAD, x.proposal(-1, 0));
        x.setting(7, 0);
        due("without setting 7", BAD, x.proposal(0, 0));
        due("without setting 7 none", 0, x.told(3));
        x.setting(7, 1);
        x.scope(LAMP, false);
        due("not in scope", 0, x.told(3));
        x.scope(LAMP, true);
        Check.line(x, "take lmap thr");
        due("two unknown", 0, x.told(3));
        Check.line(x, "take lamp thee");
        due("no idle word", 0, x.told(3));
        Check.line(x, "take wit");
        due("a link", WITH, x.proposal(0, 0));
        due("which does not fit", 0, x.proposal(0, 2));
        x.scope(KEY, false);
        Check.line(x, "take key lmap");
        due("another word not in scope", 0, x.proposal(0, 2));
    }

    private static void proposalLimits() {
        MisspellHelp x = new MisspellHelp();
        Check.word(x, "ab", 0);
        Check.word(x, "abcdef", 0);
        Check.line(x, "abcd");
        due("both at 4", 2, x.told(3));
        x.setting(5, 3);
        due("none at 3", 0, x.told(3));
        x.setting(5, 60);
        Check.line(x, "xy");
        // ab: 6 by two changes, 8 by all anew; abcdef: 14 by two changes and four more, 16 anew.
        due("changes", 2, x.told(3));
        due("distance 6", 6, x.proposal(0, 1));
        due("distance 14", 14, x.proposal(1, 1));
        x.setting(2, 4);
        due("as dear as all anew", 0, x.told(3));
        due("is told all the same", 8, x.edits(0, 0));
        x.near(23, 0);
        due("one near letter is less", 2, x.told(3));
        x.setting(5, 0);
        due("none at 0", 0, x.told(3));
    }

    private static void proposalOrder() {
        MisspellHelp x = new MisspellHelp();
        int go = Check.word(x, "go", 0);
        int cab = Check.word(x, "cab", 2);
        int cat = Check.word(x, "cat", 1);
        int car = Check.word(x, "car", 1);
        int cax = Check.word(x, "caxx", 2);
        int can = Check.word(x, "can", 1);
        for (int thing : new int[] {cat, car, can}) {
            x.scope(thing, true);
        }
        x.classes(car, 2);
        x.classes(can, 2);
        rule(x, go, -3);
        Check.line(x, "go cax");
        int[][] due = {{cax, 2, 0}, {car, 3, 1}, {can, 3, 1}, {cab, 3, 0}, {cat, 3, 0}};
        due("five", due.length, x.told(3));
        for (int i = 0; i < due.length; i++) {
            for (int what = 0; what < 3; what++) {
                due("order " + i + " " + what, due[i][what], x.proposal(i, what));
            }
        }
        x.scope(car, false);
        due("without car", can, x.proposal(1, 0));
    }

    private static void fix() {
        MisspellHelp x = world();
        Check.line(x, "take lamp");
        due("fits already", NO, x.fix());
        Check.line(x, "take xxxxxxxx");
        due("no proposal", 0, x.fix());
        Check.line(x, "take the LMAP, now");
        due("two unknown", NO, x.fix());
        Check.line(x, "take the LMAP!");
        due("setting 6 is 0", 2, x.fix());
        same("nothing is done", "take the LMAP!", Check.text(x));
        due("nothing is counted", 0, x.count(3));
        x.setting(6, 1);
        due("fixed", 1, x.fix());
        same("by its name", "take the lamp!", Check.text(x));
        due("note", 2, x.told(8));
        due("counted", 1, x.count(3));
        due("fits now", 0, x.look());
        due("fixed already", NO, x.fix());
        due("the note stays", 2, x.told(8));
        Check.line(x, "ta  lamp");
        x.setting(5, 60);
        due("a shorter word", 1, x.fix());
        same("grows", "take  lamp", Check.text(x));
        due("place of the next", 6, x.typed(1, 0));
        Check.line(x, "taakeee lamp");
        due("a longer word", 1, x.fix());
        same("shrinks", "take lamp", Check.text(x));
        due("line", 9, x.count(5));
        x.setting(7, 0);
        Check.line(x, "take lmap");
        due("without proposals", 0, x.fix());
    }

    private static void fixAsks() {
        MisspellHelp x = world();
        x.setting(6, 1);
        Check.line(x, "burn lmap");
        due("dangerous", 2, x.fix());
        Check.line(x, "brun lamp");
        due("dangerous verb itself", 2, x.fix());
        same("stays", "brun lamp", Check.text(x));
        x.danger(BURN, false);
        due("not dangerous", 1, x.fix());
        Check.line(x, "open lmap");
        due("would not fit", 2, x.fix());
        Check.word(x, "lump", 1);
        Check.line(x, "take lmp");
        due("lump is not in scope", 1, x.fix());
        x.scope(8, true);
        Check.line(x, "take lmp");
        due("two are alike", 2, x.fix());
        x.scope(8, false);
        Check.word(x, "lmpx", 2);
        due("alike though the other would not fit", 2, x.fix());
        due("the first would fit", 1, x.proposal(0, 2));
        x.setting(0, 1);
        Check.line(x, "take lampq");
        due("the first is nearer", 1, x.proposal(0, 1));
        due("there are two", 2, x.told(3));
        due("nearer", 1, x.fix());
    }

    private static void choose() {
        MisspellHelp x = world();
        Check.line(x, "burn the LMAP.");
        due("choose 1", BAD, x.choose(1));
        due("choose -1", BAD, x.choose(-1));
        due("choose", 0, x.choose(0));
        same("chosen", "burn the lamp.", Check.text(x));
        due("no note", NONE, x.told(8));
        due("counted", 1, x.count(3));
        due("chosen already", BAD, x.choose(0));
        Check.line(x, "brun lamp");
        due("a dangerous verb", 0, x.choose(0));
        Check.line(x, "open lmap");
        due("fits no rule", 6, x.choose(0));
        Check.line(x, "lmap lamp");
        due("no verb then", 4, x.choose(0));
        Check.line(x, "take key lmap");
        due("another not in scope", 5, x.choose(0));
        due("two pairs", 2, x.count(3));
        x.setting(7, 0);
        Check.line(x, "take lmap");
        due("without proposals", BAD, x.choose(0));
        x.setting(7, 1);
        Check.word(x, "lamb", 1);
        x.scope(8, true);
        Check.line(x, "take lamm");
        due("the second", 0, x.choose(1));
        same("the second is lamb", "take lamb", Check.text(x));
    }

    private static void missing() {
        MisspellHelp x = world();
        x.scope(KEY, true);
        int rule = rule(x, Check.word(x, "put", 0), -1, WITH, -2, -4);
        Check.line(x, "put lamp with with lamp");
        due("nearest", rule, x.told(4));
        due("missing", 2, x.told(5));
        due("extra", 2, x.told(6));
        due("missing 0", -2, x.missing(0));
        due("missing 1", -4, x.missing(1));
        due("missing 2", BAD, x.missing(2));
        due("missing -1", BAD, x.missing(-1));
        Check.line(x, "put with key");
        due("missing first", -1, x.missing(0));
        due("missing second", -2, x.missing(1));
        Check.line(x, "put lamp lamp key");
        due("missing a link", WITH, x.missing(0));
        due("missing a class", -2, x.missing(1));
        due("an extra lamp", 1, x.told(6));
        Check.line(x, "put lamp door key");
        due("missing the link alone", WITH, x.missing(0));
        due("nothing extra", 0, x.told(6));
        Check.line(x, "put lamp with door key");
        due("fits", 0, x.look());
        due("nearest, too", rule, x.told(4));
        due("nothing missing", BAD, x.missing(0));
        Check.line(x, "put lamp with foo");
        due("unknown", BAD, x.missing(0));
        x.scope(KEY, false);
        Check.line(x, "put key");
        due("not in scope", BAD, x.missing(0));
    }

    private static void nearestRule() {
        MisspellHelp x = new MisspellHelp();
        int go = Check.word(x, "go", 0);
        int a = Check.word(x, "a", 1);
        int b = Check.word(x, "b", 1);
        int to = Check.word(x, "to", 2);
        x.scope(a, true);
        x.scope(b, true);
        x.classes(b, 1);
        int first = rule(x, go, -2, -1, -2, to);
        Check.line(x, "go a");
        // a is no thing of class 0: only the second token is as it.
        due("three missing", 3, x.told(5));
        due("of a", -2, x.missing(0));
        due("of a", -2, x.missing(1));
        due("of a", to, x.missing(2));
        Check.line(x, "go b");
        // b is as each of the first three: the first one has the pair.
        due("of b", -1, x.missing(0));
        due("of b", -2, x.missing(1));
        due("of b", to, x.missing(2));
        Check.line(x, "go to b a");
        // b with the first and a with the second: two pairs; to has none before them.
        due("of to b a", -2, x.missing(0));
        due("of to b a", to, x.missing(1));
        due("extra of to b a", 1, x.told(6));
        int second = rule(x, go, to, -1);
        due("a nearer rule", second, x.told(4));
        rule(x, go, to, -2);
        due("of like ones the first", second, x.told(4));
        Check.line(x, "go a b a to");
        due("nearest by most pairs", first, x.told(4));
        due("missing there", 1, x.told(5));
        due("extra there", 1, x.told(6));
        due("the token without a pair", -2, x.missing(0));
    }

    private static void hint() {
        MisspellHelp x = world();
        hintsAre(x, "", TAKE, OPEN, BURN);
        hintsAre(x, "the", TAKE, OPEN, BURN);
        Check.word(x, "wait", 0);
        hintsAre(x, "the", TAKE, OPEN, BURN);
        hintsAre(x, "take the", LAMP, DOOR);
        hintsAre(x, "take lamp");
        hintsAre(x, "open", DOOR);
        hintsAre(x, "open lamp");
        hintsAre(x, "open the door", WITH);
        hintsAre(x, "open door with");
        x.scope(KEY, true);
        hintsAre(x, "open door with", KEY);
        hintsAre(x, "open door with key");
        hintsAre(x, "take", LAMP, DOOR, KEY);
        hintsAre(x, "take foo");
        hintsAre(x, "foo");
        hintsAre(x, "lamp");
        rule(x, TAKE, KEY);
        rule(x, TAKE, WITH, -1);
        hintsAre(x, "take", LAMP, DOOR, WITH, KEY);
        x.scope(KEY, false);
        hintsAre(x, "take", LAMP, DOOR, WITH);
        rule(x, TAKE, -1, -1);
        hintsAre(x, "take key");
        hintsAre(x, "take lamp", LAMP, DOOR);
        hintsAre(x, "take with", LAMP, DOOR);
    }

    private static void hintsAre(MisspellHelp x, String text, int... due) {
        Check.line(x, text);
        due("'" + text + "' hints", due.length, x.told(7));
        for (int i = 0; i < due.length; i++) {
            due("'" + text + "' hint " + i, due[i], x.hint(i));
        }
        due("'" + text + "' hint behind", BAD, x.hint(due.length));
        due("'" + text + "' hint -1", BAD, x.hint(-1));
    }

    private static void verbs() {
        MisspellHelp x = world();
        int[][] due = {{LAMP, TAKE, BURN, NONE}, {DOOR, TAKE, OPEN, BURN}, {KEY, TAKE, OPEN, BURN}};
        for (int[] row : due) {
            for (int i = 0; i < 3; i++) {
                due("verbs of " + row[0] + " " + i, row[i + 1], x.verbs(row[0], i));
            }
            due("verbs behind", NONE, x.verbs(row[0], 3));
            due("verbs -1", NONE, x.verbs(row[0], -1));
        }
        x.classes(KEY, 0);
        due("verbs of no class", BURN, x.verbs(KEY, 1));
        for (int word : new int[] {TAKE, WITH, THE, -1, 8, 60}) {
            due("verbs of " + word, BAD, x.verbs(word, 0));
            due("verbs of " + word, BAD, x.verbs(word, -1));
        }
    }

    private static void edits() {
        MisspellHelp x = new MisspellHelp();
        int[] costs = {2, 3, 7, 1, 4};
        for (int what = 0; what < costs.length; what++) {
            x.setting(what, costs[what]);
        }
        distanceIs(x, "abcd", "abcd", 0);
        distanceIs(x, "abXcd", "abcd", 2);
        distanceIs(x, "abd", "abcd", 3);
        distanceIs(x, "abdc", "abcd", 4);
        x.setting(4, 9);
        distanceIs(x, "abdc", "abcd", 5);
        x.setting(2, 4);
        distanceIs(x, "aXcd", "abcd", 4);
        x.setting(2, 9);
        distanceIs(x, "aXcd", "abcd", 5);
        x.setting(4, 1);
        distanceIs(x, "badc", "abcd", 2);
        // c takes part in one act at most: it is not swapped twice.
        distanceIs(x, "cab", "abc", 5);
        // Letters that are swapped stand side by side, before and after.
        distanceIs(x, "ca", "abc", 8);
        distanceIs(x, "cxa", "ac", 7);
        distanceIs(x, "aab", "aba", 1);
        distanceIs(x, "zz", "zz", 0);
        distanceIs(x, "x", "abcdefghijkl", 38);
        distanceIs(x, "a", "abcdefghijkl", 33);
        due("edits k 1", BAD, x.edits(1, 0));
        due("edits k -1", BAD, x.edits(-1, 0));
        due("edits word -1", BAD, x.edits(0, -1));
        due("edits word behind", BAD, x.edits(0, x.count(0)));
    }

    /** Tells the name as an idle word, too: a word of any kind has a distance. */
    private static void distanceIs(MisspellHelp x, String typed, String name, int due) {
        int word = Check.word(x, name, 3);
        if (word == NO) {
            Check.line(x, name);
            word = x.typed(0, 2);
        }
        Check.line(x, typed);
        due(typed + " to " + name, due, x.edits(0, word));
    }

    private static void editsNear() {
        MisspellHelp x = new MisspellHelp();
        x.near(0, 18);
        distanceIs(x, "tske", "take", 2);
        x.setting(3, 1);
        distanceIs(x, "tske", "take", 1);
        distanceIs(x, "tqke", "take", 3);
        distanceIs(x, "ab", "sb", 1);
        x.setting(3, 9);
        // A near letter is another one, too.
        distanceIs(x, "tske", "take", 3);
        distanceIs(x, "take", "take", 0);
        x.setting(2, 9);
        distanceIs(x, "tske", "take", 4);
    }

    private static void cell() {
        MisspellHelp x = world();
        Check.line(x, "lmap foo");
        due("edits", 2, x.edits(0, LAMP));
        int[][] due = {{0, 2, 4, 6, 8}, {2, 0, 2, 4, 6}, {4, 2, 3, 2, 4}, {6, 4, 2, 2, 4}, {8, 6, 4, 4, 2}};
        cellsAre(x, due);
        due("refused", BAD, x.edits(2, LAMP));
        due("refused", BAD, x.edits(0, 8));
        x.setting(0, 9);
        Check.line(x, "take lmp");
        due("proposals in between", 1, x.told(3));
        x.line();
        cellsAre(x, due);
        x.setting(0, 2);
        Check.line(x, "lx");
        due("of another", 8, x.edits(0, KEY));
        due("fewer rows", THROWS, Check.cell(x, 3, 0));
        due("fewer columns", THROWS, Check.cell(x, 0, 4));
        due("last", 8, Check.cell(x, 2, 3));
        cellOfNames();
    }

    private static void cellsAre(MisspellHelp x, int[][] due) {
        for (int i = 0; i < due.length; i++) {
            for (int j = 0; j < due[i].length; j++) {
                due("cell " + i + " " + j, due[i][j], Check.cell(x, i, j));
            }
            due("cell behind", THROWS, Check.cell(x, i, due[i].length));
            due("cell before", THROWS, Check.cell(x, i, -1));
        }
        due("row behind", THROWS, Check.cell(x, due.length, 0));
        due("row before", THROWS, Check.cell(x, -1, 0));
        due("far", THROWS, Check.cell(x, Integer.MAX_VALUE, Integer.MIN_VALUE));
    }

    private static void cellOfNames() {
        MisspellHelp x = world();
        x.setting(8, 1);
        Check.line(x, "tkae lamp");
        x.choose(0);
        x.learn(0);
        Check.line(x, "tka take");
        due("the nearer name", 2, x.edits(0, TAKE));
        due("of tkae", 0, Check.cell(x, 2, 2));
        due("the first name", 0, x.edits(1, TAKE));
        due("of take", 0, Check.cell(x, 2, 2));
        Check.line(x, "tk");
        // take: 4 by two put in; tkae: 4 as well, so that the first told is told of.
        due("alike", 4, x.edits(0, TAKE));
        due("the first told", 3, Check.cell(x, 2, 2));
    }

    /** Has the first proposal for a line chosen some times. */
    private static void chooseOften(MisspellHelp x, String text, int times) {
        for (int i = 0; i < times; i++) {
            Check.line(x, text);
            x.choose(0);
        }
    }

    private static void forward() {
        MisspellHelp x = world();
        due("none", 0, x.forward());
        chooseOften(x, "tkae lamp", 2);
        due("not yet", 0, x.forward());
        x.setting(6, 1);
        Check.line(x, "TKAE door");
        due("fixing counts, too", 1, x.fix());
        due("three times", 1, x.forward());
        chooseOften(x, "take lmap", 2);
        due("two pairs", 2, x.count(3));
        due("one is forward", 1, x.forward());
        x.setting(8, 2);
        due("both are forward", 2, x.forward());
        x.setting(8, 9);
        due("none is", 0, x.forward());
        x.setting(5, 60);
        chooseOften(x, "takeeeeeeeee lamp", 1);
        due("twelve letters", 3, x.count(3));
        chooseOften(x, "takeeeeeeeeee lamp", 1);
        same("thirteen letters are chosen for", "take lamp", Check.text(x));
        due("and not counted", 3, x.count(3));
    }

    private static void pair() {
        MisspellHelp x = world();
        chooseOften(x, "take lmp", 1);
        chooseOften(x, "tkae lamp", 4);
        chooseOften(x, "Doro lamp", 3);
        int[][] due = {{TAKE, 4, 4, 19, 10, 0, 4}, {DOOR, 3, 4, 3, 14, 17, 14}};
        for (int i = 0; i < due.length; i++) {
            for (int what = 0; what < due[i].length; what++) {
                due("pair " + i + " " + what, due[i][what], x.pair(i, what));
            }
            due("no such letter", BAD, x.pair(i, 7));
            due("no letter at all", BAD, x.pair(i, Integer.MAX_VALUE));
            due("what -1", BAD, x.pair(i, -1));
            due("what least", BAD, x.pair(i, Integer.MIN_VALUE));
        }
        due("pair 2", BAD, x.pair(2, 0));
        due("pair -1", BAD, x.pair(-1, 0));
        x.setting(8, 1);
        due("all forward, by the log's order", LAMP, x.pair(0, 0));
    }

    private static void logFull() {
        MisspellHelp x = new MisspellHelp();
        Check.word(x, "a", 0);
        x.setting(5, 60);
        x.setting(8, 1);
        for (int i = 0; i < 42; i++) {
            chooseOften(x, "a" + Check.name(i), 1);
        }
        due("40 pairs", 40, x.count(3));
        chooseOften(x, "a" + Check.name(41), 1);
        due("not kept", 40, x.forward());
        chooseOften(x, "a" + Check.name(39), 1);
        due("the last kept is counted", 2, x.pair(39, 1));
        due("learn", 2, x.learn(0));
        due("room again", 39, x.count(3));
        chooseOften(x, "a" + Check.name(41), 1);
        due("kept now", 40, x.count(3));
        due("behind the others", 41 % 26, x.pair(39, 6));
    }

    private static void learn() {
        MisspellHelp x = world();
        Check.word(x, "tape", 2);
        x.setting(8, 1);
        chooseOften(x, "lmap lamp", 1);
        chooseOften(x, "tae lamp", 2);
        Check.line(x, "tae lamp");
        x.choose(1);
        same("the second is tape", "tape lamp", Check.text(x));
        chooseOften(x, "dor lamp", 1);
        due("four pairs", 4, x.count(3));
        due("learn", 2, x.learn(1));
        due("all of what was typed are gone", 2, x.count(3));
        due("the first stays", LAMP, x.pair(0, 0));
        due("the last moves up", DOOR, x.pair(1, 0));
        due("with its letters", 14, x.pair(1, 4));
        due("names", 10, x.count(2));
        due("words", 9, x.count(0));
        Check.line(x, "TAE lamp");
        due("it is known", TAKE, x.typed(0, 2));
        due("it fits", 0, x.look());
        chooseOften(x, "taae lamp", 1);
        same("by the first name", "take lamp", Check.text(x));
        due("learn once more", 3, x.learn(2));
        due("a name cannot be told again", NO, Check.word(x, "tae", 0));
    }

    private static void learnRefusals() {
        MisspellHelp x = world();
        due("learn nothing", BAD, x.learn(0));
        x.setting(8, 1);
        chooseOften(x, "lmap lamp", 1);
        due("learn -1", BAD, x.learn(-1));
        due("learn 1", BAD, x.learn(1));
        Check.word(x, "lmap", 1);
        due("a name by now", NO, x.learn(0));
        due("the pair stays", 1, x.count(3));
        x.setting(8, 2);
        due("not forward", BAD, x.learn(0));

        MisspellHelp y = new MisspellHelp();
        Check.word(y, "a", 0);
        y.setting(5, 60);
        y.setting(8, 1);
        for (int i = 0; i < 60; i++) {
            chooseOften(y, "a" + Check.name(i), 1);
            due("learn " + i, i + 2, y.learn(0));
        }
        for (int i = 1; i < 29; i++) {
            due("words", i, Check.word(y, "zz" + Check.name(i), 2));
        }
        chooseOften(y, "alast", 1);
        chooseOften(y, "atold", 1);
        due("90th name", 29, Check.word(y, "atold", 1));
        due("90 names", 90, y.count(2));
        due("full of names", FULL, y.learn(0));
        due("no before full", NO, y.learn(1));
        due("pairs stay", 2, y.count(3));
        due("no word either", FULL, Check.word(y, "another", 0));
        due("30 words", 30, y.count(0));
    }

    private static void count() {
        MisspellHelp x = world();
        x.setting(8, 1);
        chooseOften(x, "take lmap", 1);
        x.learn(0);
        chooseOften(x, "take lampp", 1);
        Check.line(x, "take the, lamp");
        Check.feed(x, "abc");
        int[] due = {8, 4, 9, 1, 3, 14, 3, BAD};
        for (int what = 0; what < due.length; what++) {
            due("count " + what, due[what], x.count(what));
        }
        due("count -1", BAD, x.count(-1));
    }

    /** The longest line that can be: eighty bytes, of which one becomes twelve. */
    private static void longestLine() {
        MisspellHelp x = new MisspellHelp();
        Check.word(x, "abcdefghijkl", 0);
        x.setting(5, 60);
        Check.line(x, " ".repeat(40) + "a" + ".".repeat(39));
        due("choose", 6, x.choose(0));
        due("length", 91, x.count(5));
        due("end", '.', x.at(90));
        due("behind", NONE, x.at(91));
        Check.line(x, "a".repeat(80));
        due("longest word", 80, x.typed(0, 1));
        due("its distance", 11 * 3 + 68 * 2, x.edits(0, 0));
        due("its last cell", 11 * 3 + 68 * 2, Check.cell(x, 80, 12));
        due("behind it", THROWS, Check.cell(x, 81, 12));
    }
}
