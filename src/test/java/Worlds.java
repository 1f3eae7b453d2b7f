/** Words, rules and lines that tests begin with. All leave the tape empty. */
final class Worlds {
    static final int VERB = 0, THING = 1, LINK = 2, IDLE = 3;
    static final int TAKE = 0, OPEN = 1, BURN = 2, LAMP = 3, DOOR = 4, WITH = 5, THE = 6, KEY = 7;
    /** How many words and rules the small world has. */
    static final int WORDS = 8, RULES = 4;

    private Worlds() {
    }

    /** Burn is dangerous; lamp and door (class 0) are in scope, key (class 2) is not. */
    static void small(Subject x) {
        x.tell("take", VERB);
        x.tell("open", VERB);
        x.tell("burn", VERB);
        x.tell("lamp", THING);
        x.tell("door", THING);
        x.tell("with", LINK);
        x.tell("the", IDLE);
        x.tell("key", THING);
        x.scope(LAMP, true);
        x.scope(DOOR, true);
        x.classes(DOOR, 1);
        x.classes(KEY, 4);
        x.danger(BURN, true);
        x.tellRule(TAKE, -1);
        x.tellRule(OPEN, -2);
        x.tellRule(OPEN, -2, WITH, -4);
        x.tellRule(BURN, -1);
    }

    /** The small world with a log, cells, settings of its own, and a line that has a note. */
    static void fixed(Subject x) {
        small(x);
        x.near(0, 18);
        x.setting(1, 3);
        x.setting(6, 1);
        x.chooseOften("tkae door", 2);
        x.chooseOften("open dor with", 3);
        x.edits(1, BURN);
        x.say("take the lmap!");
        x.fix();
    }

    /** The same with a line that has one unknown word, and with proposals for it. */
    static void asking(Subject x) {
        fixed(x);
        x.setting(6, 0);
        x.setting(5, 60);
        x.say("open the lamd with, lamp?");
    }

    /** The same with a line that fits no rule, so that tokens are missing. */
    static void lacking(Subject x) {
        fixed(x);
        x.say("open with the lamp");
    }

    static void nothing(Subject x) {
    }

    /** Words that are named by their numbers, of all kinds in turn. */
    static void words(Subject x, int many) {
        for (int i = 0; i < many; i++) {
            x.tell(Check.name(i), i % 4);
        }
    }

    /** One verb, a, and pairs a + name of number, each chosen once, all put forward. */
    static void pairs(Subject x, int many) {
        x.tell("a", VERB);
        x.setting(5, 60);
        x.setting(8, 1);
        for (int i = 0; i < many; i++) {
            x.chooseOften("a" + Check.name(i), 1);
        }
    }

    /** As many words as are told, of which the first has learned all the other names. */
    static void names(Subject x, int words, int names) {
        pairs(x, 0);
        for (int i = 0; i < names - words; i++) {
            x.chooseOften("a" + Check.name(i), 1);
            x.learn(0);
        }
        for (int i = 1; i < words; i++) {
            x.tell("z" + Check.name(i), LINK);
        }
    }
}
