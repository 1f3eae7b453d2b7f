/**
 * Help for lines that went wrong: typed words are held against the words that are known, lines
 * against the rules of what may be said. All rows are made with the object; a call makes none.
 *
 * What follows from the state (the verdict, the proposals, the nearest rule, the hints) is worked
 * out anew by each call that asks for it, so that it can never be older than the state.
 */
public final class MisspellHelp {
    public static final int NONE = -1, BAD = -2, NO = -3, FULL = -4;

    private static final int TAPE_MOST = 80, WORDS_MOST = 60, NAMES_MOST = 90, NAME_MOST = 12;
    private static final int RULES_MOST = 40, TOKENS_MOST = 4, TYPED_MOST = 10, PAIRS_MOST = 40;
    private static final int ALPHABET = 26, CLASS_BITS = 255;

    // A line has but one word replaced: after that all that is meant in it is known for ever.
    private static final int LINE_MOST = TAPE_MOST + NAME_MOST;

    private static final int VERB = 0, THING = 1, LINK = 2, IDLE = 3;
    private static final int ANY_THING = -1, CLASS_FIRST = -2, CLASS_LAST = -9;

    private static final int FITS = 0, NOTHING_MEANT = 1, SEVERAL_UNKNOWN = 2, ONE_UNKNOWN = 3;
    private static final int NO_VERB = 4, NOT_IN_SCOPE = 5, FITS_NO_RULE = 6;

    private static final int LEAVE_OUT = 0, PUT_IN = 1, CHANGE = 2, CHANGE_NEAR = 3, SWAP = 4;
    private static final int DISTANCE_MOST = 5, MAY_FIX = 6, MAY_PROPOSE = 7, FORWARD_FROM = 8;
    private static final int[] SETTING_FIRST = {2, 2, 3, 2, 2, 4, 0, 1, 3};
    private static final int[] SETTING_LEAST = {1, 1, 1, 1, 1, 0, 0, 0, 1};
    private static final int[] SETTING_MOST = {9, 9, 9, 9, 9, 60, 1, 1, 9};

    private final int[] tape;
    private int tapeSize;
    private final int[] spelling;
    private final Settings settings;
    private final Names names;
    private final Words words;
    private final Rules rules;
    private final Line line;
    private final Reading reading;
    private final Proposals proposals;
    private final Nearest nearest;
    private final Log log;
    private final Table asked;

    public MisspellHelp() {
        tape = new int[TAPE_MOST];
        tapeSize = 0;
        spelling = new int[NAME_MOST];
        settings = new Settings();
        names = new Names();
        words = new Words();
        rules = new Rules();
        line = new Line();
        reading = new Reading(line, names, words, rules);
        // A table of its own: proposals must not spoil what cell() tells of edits().
        proposals = new Proposals(reading, new Table(settings, names));
        nearest = new Nearest(reading);
        log = new Log();
        asked = new Table(settings, names);
    }

    // ---- what is known

    public int feed(int n, long w) {
        if (n < 1 || n > 8) {
            return BAD;
        }
        if (tapeSize + n > TAPE_MOST) {
            return FULL;
        }
        for (int i = n - 1; i >= 0; i--) {
            tape[tapeSize] = (int) (w >>> (8 * i)) & 255;
            tapeSize++;
        }
        return tapeSize;
    }

    public int word(int kind) {
        int length = tapeSize;
        tapeSize = 0;
        if (kind < VERB || kind > IDLE || !spell(length)) {
            return BAD;
        }
        if (names.find(spelling, 0, length) != NONE) {
            return NO;
        }
        if (words.size >= WORDS_MOST || names.size >= NAMES_MOST) {
            return FULL;
        }
        int word = words.add(kind);
        names.add(spelling, 0, length, word);
        return word;
    }

    public int scope(int word, boolean on) {
        if (!words.isOf(word, THING)) {
            return BAD;
        }
        int before = words.inScope[word] ? 1 : 0;
        words.inScope[word] = on;
        return before;
    }

    public int classes(int word, int bits) {
        if (!words.isOf(word, THING) || bits < 0 || bits > CLASS_BITS) {
            return BAD;
        }
        int before = words.classBits[word];
        words.classBits[word] = bits;
        return before;
    }

    public int danger(int word, boolean on) {
        if (!words.isOf(word, VERB)) {
            return BAD;
        }
        int before = words.dangerous[word] ? 1 : 0;
        words.dangerous[word] = on;
        return before;
    }

    public int rule(int word) {
        if (!words.isOf(word, VERB)) {
            return BAD;
        }
        if (rules.size >= RULES_MOST) {
            return FULL;
        }
        return rules.add(word);
    }

    public int token(int rule, int token) {
        boolean known = words.isOf(token, LINK) || (token <= ANY_THING && token >= CLASS_LAST);
        if (rule < 0 || rule >= rules.size || !known) {
            return BAD;
        }
        if (rules.lengths[rule] >= TOKENS_MOST) {
            return FULL;
        }
        return rules.addToken(rule, token);
    }

    public int setting(int what, int v) {
        if (what < 0 || what >= SETTING_FIRST.length) {
            return BAD;
        }
        if (v < SETTING_LEAST[what] || v > SETTING_MOST[what]) {
            return BAD;
        }
        int before = settings.values[what];
        settings.values[what] = v;
        return before;
    }

    public int near(int a, int b) {
        if (a < 0 || a >= ALPHABET || b < 0 || b >= ALPHABET || a == b) {
            return BAD;
        }
        return settings.makeNear(a, b) ? 1 : 0;
    }

    // ---- a line

    public int line() {
        int length = tapeSize;
        tapeSize = 0;
        if (countRuns(tape, length) > TYPED_MOST) {
            return FULL;
        }
        line.become(tape, length);
        return line.typedSize;
    }

    public int at(int i) {
        return i < 0 || i >= line.size ? NONE : line.bytes[i];
    }

    public int typed(int k, int what) {
        if (k < 0 || k >= line.typedSize) {
            return BAD;
        }
        switch (what) {
            case 0: return line.starts[k];
            case 1: return line.lengths[k];
            case 2: return reading.wordOfTyped(k);
            default: return BAD;
        }
    }

    public int look() {
        reading.update();
        return reading.verdict;
    }

    public int told(int what) {
        reading.update();
        switch (what) {
            case 0: return reading.size;
            case 1: return reading.culprit;
            case 2: return reading.rule;
            case 3: proposals.update(); return proposals.size;
            case 4: nearest.update(); return nearest.rule;
            case 5: nearest.update(); return nearest.missingSize;
            case 6: nearest.update(); return nearest.extra;
            case 7: return countHints();
            case 8: return line.note;
            default: return BAD;
        }
    }

    public int proposal(int i, int what) {
        reading.update();
        proposals.update();
        if (i < 0 || i >= proposals.size) {
            return BAD;
        }
        switch (what) {
            case 0: return proposals.word[i];
            case 1: return proposals.distance[i];
            case 2: return proposals.fits[i] ? 1 : 0;
            default: return BAD;
        }
    }

    public int fix() {
        reading.update();
        if (reading.verdict != ONE_UNKNOWN) {
            return NO;
        }
        proposals.update();
        if (proposals.size == 0) {
            return 0;
        }
        if (!mayFixUnasked()) {
            return 2;
        }
        int k = reading.culprit;
        accept(0);
        line.note = k;
        return 1;
    }

    public int choose(int i) {
        reading.update();
        proposals.update();
        if (i < 0 || i >= proposals.size) {
            return BAD;
        }
        accept(i);
        line.note = NONE;
        reading.update();
        return reading.verdict;
    }

    public int missing(int i) {
        reading.update();
        nearest.update();
        return i < 0 || i >= nearest.missingSize ? BAD : nearest.missing[i];
    }

    public int hint(int i) {
        reading.update();
        int before = 0;
        for (int word = 0; word < words.size; word++) {
            if (reading.couldComeNext(word)) {
                if (before == i) {
                    return word;
                }
                before++;
            }
        }
        return BAD;
    }

    public int verbs(int thing, int i) {
        if (!words.isOf(thing, THING)) {
            return BAD;
        }
        int before = 0;
        for (int verb = 0; verb < words.size; verb++) {
            if (takes(verb, thing)) {
                if (before == i) {
                    return verb;
                }
                before++;
            }
        }
        return NONE;
    }

    public int edits(int k, int word) {
        if (k < 0 || k >= line.typedSize || word < 0 || word >= words.size) {
            return BAD;
        }
        int name = asked.nearestName(word, line, k);
        if (name == NONE) {
            return BAD;
        }
        // The search leaves the table of the last name behind; cell() tells of the nearest one.
        return asked.fill(name, line, k);
    }

    public int cell(int i, int j) throws ArrayIndexOutOfBoundsException {
        if (i < 0 || i > asked.rows || j < 0 || j > asked.columns) {
            throw new ArrayIndexOutOfBoundsException("no such letters");
        }
        return asked.cost(i, j);
    }

    // ---- learning

    public int forward() {
        return log.countForward(settings.values[FORWARD_FROM]);
    }

    public int pair(int i, int what) {
        int pair = log.findForward(i, settings.values[FORWARD_FROM]);
        if (pair == NONE || what < 0) {
            return BAD;
        }
        switch (what) {
            case 0: return log.words[pair];
            case 1: return log.counts[pair];
            case 2: return log.lengths[pair];
            default: return what - 3 < log.lengths[pair] ? log.letters[pair * NAME_MOST + what - 3] : BAD;
        }
    }

    public int learn(int i) {
        int pair = log.findForward(i, settings.values[FORWARD_FROM]);
        if (pair == NONE) {
            return BAD;
        }
        if (names.find(log.letters, pair * NAME_MOST, log.lengths[pair]) != NONE) {
            return NO;
        }
        if (names.size >= NAMES_MOST) {
            return FULL;
        }
        int word = log.words[pair];
        int name = names.add(log.letters, pair * NAME_MOST, log.lengths[pair], word);
        log.forget(names.letters, name * NAME_MOST, names.lengths[name]);
        return names.countOf(word);
    }

    public int count(int what) {
        switch (what) {
            case 0: return words.size;
            case 1: return rules.size;
            case 2: return names.size;
            case 3: return log.size;
            case 4: return tapeSize;
            case 5: return line.size;
            case 6: return line.typedSize;
            default: return BAD;
        }
    }

    // ---- parts of the calls

    /** Spells what was on the tape; false if that is no name. */
    private boolean spell(int length) {
        if (length < 1 || length > NAME_MOST) {
            return false;
        }
        for (int i = 0; i < length; i++) {
            if (tape[i] < 'a' || tape[i] > 'z') {
                return false;
            }
            spelling[i] = tape[i] - 'a';
        }
        return true;
    }

    private static int letterOf(int b) {
        if (b >= 'a' && b <= 'z') {
            return b - 'a';
        }
        return b >= 'A' && b <= 'Z' ? b - 'A' : NONE;
    }

    private static int countRuns(int[] row, int length) {
        int runs = 0;
        boolean within = false;
        for (int i = 0; i < length; i++) {
            boolean letter = letterOf(row[i]) != NONE;
            if (letter && !within) {
                runs++;
            }
            within = letter;
        }
        return runs;
    }

    private static boolean sameLetters(int[] a, int fromA, int[] b, int fromB, int length) {
        for (int i = 0; i < length; i++) {
            if (a[fromA + i] != b[fromB + i]) {
                return false;
            }
        }
        return true;
    }

    private int countHints() {
        int hints = 0;
        for (int word = 0; word < words.size; word++) {
            if (reading.couldComeNext(word)) {
                hints++;
            }
        }
        return hints;
    }

    private boolean mayFixUnasked() {
        boolean clear = proposals.size == 1 || proposals.distance[0] < proposals.distance[1];
        if (settings.values[MAY_FIX] != 1 || !clear || !proposals.fits[0]) {
            return false;
        }
        return !words.dangerous[reading.verbWith(proposals.word[0])];
    }

    /** Puts the word of proposal i in the place of the unknown one, and counts that in the log. */
    private void accept(int i) {
        int k = reading.culprit;
        int word = proposals.word[i];
        // Before the line changes: the log wants what was typed.
        log.add(line.letters, line.starts[k], line.lengths[k], word);
        line.replace(k, names, names.firstOf(word));
    }

    private boolean takes(int verb, int thing) {
        for (int rule = 0; rule < rules.size; rule++) {
            if (rules.verbs[rule] != verb) {
                continue;
            }
            for (int t = 0; t < rules.lengths[rule]; t++) {
                if (words.isAs(thing, rules.tokenAt(rule, t))) {
                    return true;
                }
            }
        }
        return false;
    }

    // ---- what the object holds

    /** The settings, and which letters are near one another. */
    private static final class Settings {
        final int[] values;
        final boolean[] nearLetters;

        Settings() {
            values = new int[SETTING_FIRST.length];
            System.arraycopy(SETTING_FIRST, 0, values, 0, SETTING_FIRST.length);
            nearLetters = new boolean[ALPHABET * ALPHABET];
        }

        boolean makeNear(int a, int b) {
            boolean isNew = !nearLetters[a * ALPHABET + b];
            nearLetters[a * ALPHABET + b] = true;
            nearLetters[b * ALPHABET + a] = true;
            return isNew;
        }

        int costOfChange(int from, int to) {
            if (from == to) {
                return 0;
            }
            // A near letter is another one, too: the dearer of the two changes is never needed.
            boolean nearIsCheaper = values[CHANGE_NEAR] < values[CHANGE];
            return nearIsCheaper && nearLetters[from * ALPHABET + to]
                ? values[CHANGE_NEAR] : values[CHANGE];
        }
    }

    /** The names of all words, in the order in which they were told. */
    private static final class Names {
        final int[] letters;
        final int[] lengths;
        final int[] owners;
        int size;

        Names() {
            letters = new int[NAMES_MOST * NAME_MOST];
            lengths = new int[NAMES_MOST];
            owners = new int[NAMES_MOST];
            size = 0;
        }

        int find(int[] row, int from, int length) {
            for (int name = 0; name < size; name++) {
                if (lengths[name] == length
                        && sameLetters(letters, name * NAME_MOST, row, from, length)) {
                    return name;
                }
            }
            return NONE;
        }

        int add(int[] row, int from, int length, int owner) {
            int name = size;
            System.arraycopy(row, from, letters, name * NAME_MOST, length);
            lengths[name] = length;
            owners[name] = owner;
            size++;
            return name;
        }

        int firstOf(int word) {
            for (int name = 0; name < size; name++) {
                if (owners[name] == word) {
                    return name;
                }
            }
            return NONE;
        }

        int countOf(int word) {
            int found = 0;
            for (int name = 0; name < size; name++) {
                if (owners[name] == word) {
                    found++;
                }
            }
            return found;
        }
    }

    /** The words but for their names. */
    private static final class Words {
        final int[] kinds;
        final int[] classBits;
        final boolean[] inScope;
        final boolean[] dangerous;
        int size;

        Words() {
            kinds = new int[WORDS_MOST];
            classBits = new int[WORDS_MOST];
            inScope = new boolean[WORDS_MOST];
            dangerous = new boolean[WORDS_MOST];
            size = 0;
        }

        int add(int kind) {
            int word = size;
            kinds[word] = kind;
            inScope[word] = kind != THING;
            size++;
            return word;
        }

        boolean isOf(int word, int kind) {
            return word >= 0 && word < size && kinds[word] == kind;
        }

        boolean isAs(int word, int token) {
            if (token >= 0) {
                return word == token;
            }
            if (!isOf(word, THING)) {
                return false;
            }
            return token == ANY_THING || (classBits[word] >> (CLASS_FIRST - token) & 1) == 1;
        }

        boolean isSeen(int word) {
            return kinds[word] != IDLE && inScope[word];
        }
    }

    private static final class Rules {
        final int[] verbs;
        final int[] lengths;
        final int[] tokens;
        int size;

        Rules() {
            verbs = new int[RULES_MOST];
            lengths = new int[RULES_MOST];
            tokens = new int[RULES_MOST * TOKENS_MOST];
            size = 0;
        }

        int add(int verb) {
            int rule = size;
            verbs[rule] = verb;
            size++;
            return rule;
        }

        int addToken(int rule, int token) {
            tokens[rule * TOKENS_MOST + lengths[rule]] = token;
            lengths[rule]++;
            return lengths[rule];
        }

        int tokenAt(int rule, int t) {
            return tokens[rule * TOKENS_MOST + t];
        }

        boolean hasVerb(int verb) {
            for (int rule = 0; rule < size; rule++) {
                if (verbs[rule] == verb) {
                    return true;
                }
            }
            return false;
        }
    }

    /** The line, and where its typed words stand. */
    private static final class Line {
        final int[] bytes;
        final int[] letters;
        final int[] starts;
        final int[] lengths;
        int size;
        int typedSize;
        int note;

        Line() {
            bytes = new int[LINE_MOST];
            letters = new int[LINE_MOST];
            starts = new int[TYPED_MOST];
            lengths = new int[TYPED_MOST];
            size = 0;
            typedSize = 0;
            note = NONE;
        }

        void become(int[] row, int length) {
            System.arraycopy(row, 0, bytes, 0, length);
            size = length;
            note = NONE;
            split();
        }

        void replace(int k, Names names, int name) {
            if (name == NONE || size - lengths[k] + names.lengths[name] > LINE_MOST) {
                return;
            }
            int start = starts[k];
            int end = start + lengths[k];
            int length = names.lengths[name];
            System.arraycopy(bytes, end, bytes, start + length, size - end);
            for (int j = 0; j < length; j++) {
                bytes[start + j] = 'a' + names.letters[name * NAME_MOST + j];
            }
            size = size - lengths[k] + length;
            split();
        }

        private void split() {
            typedSize = 0;
            int run = 0;
            for (int i = 0; i < size; i++) {
                letters[i] = letterOf(bytes[i]);
                run = letters[i] == NONE ? 0 : run + 1;
                if (run == 1 && typedSize < TYPED_MOST) {
                    starts[typedSize] = i;
                    typedSize++;
                }
                if (run > 0) {
                    lengths[typedSize - 1] = run;
                }
            }
        }
    }

    // ---- what follows from that

    /** What is meant by the line, and the verdict. */
    private static final class Reading {
        final Line line;
        final Names names;
        final Words words;
        final Rules rules;
        final int[] typedOf;
        final int[] wordOf;
        int size;
        int verdict;
        int culprit;
        int unknownPlace;
        int rule;

        Reading(Line line, Names names, Words words, Rules rules) {
            this.line = line;
            this.names = names;
            this.words = words;
            this.rules = rules;
            typedOf = new int[TYPED_MOST];
            wordOf = new int[TYPED_MOST];
            size = 0;
            verdict = NOTHING_MEANT;
            culprit = NONE;
            unknownPlace = NONE;
            rule = NONE;
        }

        void update() {
            collectMeant();
            culprit = NONE;
            unknownPlace = NONE;
            rule = NONE;
            verdict = judge();
        }

        int wordOfTyped(int k) {
            int name = names.find(line.letters, line.starts[k], line.lengths[k]);
            return name == NONE ? NONE : names.owners[name];
        }

        private void collectMeant() {
            size = 0;
            for (int k = 0; k < line.typedSize; k++) {
                int word = wordOfTyped(k);
                if (!words.isOf(word, IDLE)) {
                    typedOf[size] = k;
                    wordOf[size] = word;
                    size++;
                }
            }
        }

        private int judge() {
            if (size == 0) {
                return NOTHING_MEANT;
            }
            int unknown = findUnknown();
            if (unknown > 0) {
                culprit = typedOf[unknownPlace];
                return unknown > 1 ? SEVERAL_UNKNOWN : ONE_UNKNOWN;
            }
            if (!words.isOf(wordOf[0], VERB)) {
                culprit = typedOf[0];
                return NO_VERB;
            }
            int hidden = findHidden();
            if (hidden != NONE) {
                culprit = typedOf[hidden];
                return NOT_IN_SCOPE;
            }
            rule = findFitting();
            return rule == NONE ? FITS_NO_RULE : FITS;
        }

        /** Notes the place of the first unknown word: how many there are. */
        private int findUnknown() {
            int unknown = 0;
            for (int m = size - 1; m >= 0; m--) {
                if (wordOf[m] == NONE) {
                    unknownPlace = m;
                    unknown++;
                }
            }
            return unknown;
        }

        private int findHidden() {
            for (int m = 0; m < size; m++) {
                if (!words.inScope[wordOf[m]]) {
                    return m;
                }
            }
            return NONE;
        }

        private int findFitting() {
            for (int r = 0; r < rules.size; r++) {
                if (rules.lengths[r] == size - 1 && beginsAs(r)) {
                    return r;
                }
            }
            return NONE;
        }

        /** Whether what is meant is the rule's verb and then its first tokens. */
        private boolean beginsAs(int r) {
            if (rules.verbs[r] != wordOf[0] || rules.lengths[r] < size - 1) {
                return false;
            }
            for (int t = 0; t < size - 1; t++) {
                if (!words.isAs(wordOf[t + 1], rules.tokenAt(r, t))) {
                    return false;
                }
            }
            return true;
        }

        /** Whether the line would fit a rule if its one unknown word were this word. */
        boolean wouldFit(int word) {
            wordOf[unknownPlace] = word;
            boolean would = findHidden() == NONE && findFitting() != NONE;
            wordOf[unknownPlace] = NONE;
            return would;
        }

        /** The first of what is meant, if the one unknown word were this word. */
        int verbWith(int word) {
            return unknownPlace == 0 ? word : wordOf[0];
        }

        boolean couldComeNext(int word) {
            if (!words.isSeen(word)) {
                return false;
            }
            if (verdict == NOTHING_MEANT) {
                return words.kinds[word] == VERB && rules.hasVerb(word);
            }
            // Of all verdicts these two alone leave every word known and in scope behind a verb.
            if (verdict != FITS && verdict != FITS_NO_RULE) {
                return false;
            }
            for (int r = 0; r < rules.size; r++) {
                if (rules.lengths[r] >= size && beginsAs(r)
                        && words.isAs(word, rules.tokenAt(r, size - 1))) {
                    return true;
                }
            }
            return false;
        }
    }

    /** The least costs to make beginnings of a name of beginnings of a typed word. */
    private static final class Table {
        final Settings settings;
        final Names names;
        final int[] costs;
        int rows;
        int columns;
        int least;

        Table(Settings settings, Names names) {
            this.settings = settings;
            this.names = names;
            costs = new int[(LINE_MOST + 1) * (NAME_MOST + 1)];
            // Below 0: no cell stands in a table that was never filled.
            rows = NONE;
            columns = NONE;
            least = 0;
        }

        int cost(int i, int j) {
            return costs[i * (NAME_MOST + 1) + j];
        }

        /**
         * The name of the word that typed word k is nearest to, of like ones the first told. Its
         * distance is in least then; the table is that of the word's last name.
         */
        int nearestName(int word, Line line, int k) {
            int best = NONE;
            least = 0;
            for (int name = 0; name < names.size; name++) {
                if (names.owners[name] != word) {
                    continue;
                }
                int distance = fill(name, line, k);
                if (best == NONE || distance < least) {
                    best = name;
                    least = distance;
                }
            }
            return best;
        }

        int fill(int name, Line line, int k) {
            rows = line.lengths[k];
            columns = names.lengths[name];
            int typedFrom = line.starts[k];
            int nameFrom = name * NAME_MOST;
            for (int i = 0; i <= rows; i++) {
                for (int j = 0; j <= columns; j++) {
                    costs[i * (NAME_MOST + 1) + j] = i == 0 || j == 0
                        ? i * settings.values[LEAVE_OUT] + j * settings.values[PUT_IN]
                        : leastCost(line.letters, typedFrom, nameFrom, i, j);
                }
            }
            return cost(rows, columns);
        }

        private int leastCost(int[] typed, int typedFrom, int nameFrom, int i, int j) {
            int from = typed[typedFrom + i - 1];
            int to = names.letters[nameFrom + j - 1];
            int least = cost(i - 1, j - 1) + settings.costOfChange(from, to);
            least = Math.min(least, cost(i - 1, j) + settings.values[LEAVE_OUT]);
            least = Math.min(least, cost(i, j - 1) + settings.values[PUT_IN]);
            if (i > 1 && j > 1 && from != to && from == names.letters[nameFrom + j - 2]
                    && to == typed[typedFrom + i - 2]) {
                least = Math.min(least, cost(i - 2, j - 2) + settings.values[SWAP]);
            }
            return least;
        }
    }

    /** The words that the one unknown word may have been meant as, the likeliest first. */
    private static final class Proposals {
        final Reading reading;
        final Table table;
        final int[] word;
        final int[] distance;
        final boolean[] fits;
        int size;

        Proposals(Reading reading, Table table) {
            this.reading = reading;
            this.table = table;
            word = new int[WORDS_MOST];
            distance = new int[WORDS_MOST];
            fits = new boolean[WORDS_MOST];
            size = 0;
        }

        void update() {
            size = 0;
            if (reading.verdict != ONE_UNKNOWN || table.settings.values[MAY_PROPOSE] != 1) {
                return;
            }
            for (int w = 0; w < reading.words.size; w++) {
                if (reading.words.isSeen(w)) {
                    consider(w);
                }
            }
        }

        private void consider(int w) {
            int k = reading.culprit;
            int name = table.nearestName(w, reading.line, k);
            if (name == NONE) {
                return;
            }
            int[] values = table.settings.values;
            int cost = table.least;
            int anew = reading.line.lengths[k] * values[LEAVE_OUT]
                + reading.names.lengths[name] * values[PUT_IN];
            if (cost <= values[DISTANCE_MOST] && cost < anew) {
                insert(w, cost, reading.wouldFit(w));
            }
        }

        /** Words come by their numbers, so that among like ones the later goes behind. */
        private void insert(int w, int cost, boolean fitting) {
            int place = size;
            while (place > 0 && isBefore(cost, fitting, place - 1)) {
                word[place] = word[place - 1];
                distance[place] = distance[place - 1];
                fits[place] = fits[place - 1];
                place--;
            }
            word[place] = w;
            distance[place] = cost;
            fits[place] = fitting;
            size++;
        }

        private boolean isBefore(int cost, boolean fitting, int i) {
            return cost < distance[i] || (cost == distance[i] && fitting && !fits[i]);
        }
    }

    /** The rule of the line's verb that the line comes nearest to. */
    private static final class Nearest {
        final Reading reading;
        final int[] missing;
        // The most pairs of the tokens from t on and the words from w on.
        final int[] most;
        int rule;
        int missingSize;
        int extra;

        Nearest(Reading reading) {
            this.reading = reading;
            missing = new int[TOKENS_MOST];
            most = new int[(TOKENS_MOST + 1) * (TYPED_MOST + 1)];
            rule = NONE;
            missingSize = 0;
            extra = 0;
        }

        void update() {
            rule = NONE;
            missingSize = 0;
            extra = 0;
            if (reading.verdict == FITS || reading.verdict == FITS_NO_RULE) {
                findRule();
            }
            if (rule != NONE) {
                countPairs(rule);
                extra = reading.size - 1 - pairsFrom(0, 0);
                collectMissing();
            }
        }

        private void findRule() {
            int least = 0;
            for (int r = 0; r < reading.rules.size; r++) {
                if (reading.rules.verbs[r] != reading.wordOf[0]) {
                    continue;
                }
                countPairs(r);
                int off = reading.rules.lengths[r] + reading.size - 1 - 2 * pairsFrom(0, 0);
                if (rule == NONE || off < least) {
                    rule = r;
                    least = off;
                }
            }
        }

        private int pairsFrom(int t, int w) {
            return most[t * (TYPED_MOST + 1) + w];
        }

        private boolean isPair(int r, int t, int w) {
            return reading.words.isAs(reading.wordOf[w + 1], reading.rules.tokenAt(r, t));
        }

        private void countPairs(int r) {
            int tokens = reading.rules.lengths[r];
            int behind = reading.size - 1;
            for (int t = tokens; t >= 0; t--) {
                for (int w = behind; w >= 0; w--) {
                    int pairs = 0;
                    if (t < tokens && w < behind) {
                        pairs = Math.max(pairsFrom(t + 1, w), pairsFrom(t, w + 1));
                        if (isPair(r, t, w)) {
                            pairs = Math.max(pairs, 1 + pairsFrom(t + 1, w + 1));
                        }
                    }
                    most[t * (TYPED_MOST + 1) + w] = pairs;
                }
            }
        }

        /** Gives each token in turn the first word that still leaves the most pairs. */
        private void collectMissing() {
            int w = 0;
            int left = pairsFrom(0, 0);
            for (int t = 0; t < reading.rules.lengths[rule]; t++) {
                int partner = findPartner(t, w, left);
                if (partner == NONE) {
                    missing[missingSize] = reading.rules.tokenAt(rule, t);
                    missingSize++;
                } else {
                    w = partner + 1;
                    left--;
                }
            }
        }

        private int findPartner(int t, int from, int left) {
            for (int w = from; w < reading.size - 1; w++) {
                if (isPair(rule, t, w) && 1 + pairsFrom(t + 1, w + 1) == left) {
                    return w;
                }
            }
            return NONE;
        }
    }

    /** How often which word was meant by what was typed. */
    private static final class Log {
        final int[] letters;
        final int[] lengths;
        final int[] words;
        final int[] counts;
        int size;

        Log() {
            letters = new int[PAIRS_MOST * NAME_MOST];
            lengths = new int[PAIRS_MOST];
            words = new int[PAIRS_MOST];
            counts = new int[PAIRS_MOST];
            size = 0;
        }

        private boolean isOfTyped(int pair, int[] row, int from, int length) {
            return lengths[pair] == length
                && sameLetters(letters, pair * NAME_MOST, row, from, length);
        }

        void add(int[] row, int from, int length, int word) {
            for (int pair = 0; pair < size; pair++) {
                if (words[pair] == word && isOfTyped(pair, row, from, length)) {
                    counts[pair]++;
                    return;
                }
            }
            if (length > NAME_MOST || size >= PAIRS_MOST) {
                return;
            }
            System.arraycopy(row, from, letters, size * NAME_MOST, length);
            lengths[size] = length;
            words[size] = word;
            counts[size] = 1;
            size++;
        }

        int countForward(int least) {
            int found = 0;
            for (int pair = 0; pair < size; pair++) {
                if (counts[pair] >= least) {
                    found++;
                }
            }
            return found;
        }

        int findForward(int i, int least) {
            int before = 0;
            for (int pair = 0; pair < size; pair++) {
                if (counts[pair] >= least) {
                    if (before == i) {
                        return pair;
                    }
                    before++;
                }
            }
            return NONE;
        }

        /** Takes all pairs of what was typed out; the others keep their order. */
        void forget(int[] row, int from, int length) {
            int kept = 0;
            for (int pair = 0; pair < size; pair++) {
                if (!isOfTyped(pair, row, from, length)) {
                    move(pair, kept);
                    kept++;
                }
            }
            size = kept;
        }

        private void move(int pair, int to) {
            System.arraycopy(letters, pair * NAME_MOST, letters, to * NAME_MOST, NAME_MOST);
            lengths[to] = lengths[pair];
            words[to] = words[pair];
            counts[to] = counts[pair];
        }
    }
}
