/** A maker of lexers: rules with patterns become small machines, which cut a text into tokens. */
public final class LexerForge {
    private static final int NONE = -1;
    private static final int MOST_TAPE = 1000;
    private static final int FED_AT_ONCE = 20;
    private static final int MOST_RULES = 12;
    private static final int MODES = 4;
    private static final int LETTERS = 8;
    private static final int FIRST_LETTER = 'a';
    private static final int ALL_LETTERS = 255;
    private static final int MOST_BYTES = 40;
    private static final int MOST_PLACES = 30;
    private static final int MOST_DEPTH = 6;
    private static final int MOST_SETS = 100;
    private static final int MOST_TOKENS = 500;
    private static final int MOST_LENGTH = 18;
    private static final int MOST_INDEX = 100;
    private static final int RULE_FACTS = 6;
    private static final int COUNTS = 3;
    private static final int TOKEN_FACTS = 4;
    private static final int SCAN_FACTS = 4;
    private static final int BAD_BYTE = 1;
    private static final int EMPTY_TOKEN = 2;
    private static final long DIGEST_START = 383L;
    private static final long DIGEST_FACTOR = 31L;

    private final Tape tape = new Tape();
    private final RuleBook book = new RuleBook();
    private final Reader reader = new Reader();
    private final Maker maker = new Maker();
    private final Cutter cutter = new Cutter();
    private MachineSet machines = new MachineSet();
    // build() works on these and swaps them in at its end, so that a mode that is too great changes nothing.
    private MachineSet spareMachines = new MachineSet();
    private boolean isBuilt;
    private int builtRules;
    private int errorPlace = NONE;

    public LexerForge() {
    }

    // ---- rules

    public int feed(int a, int b, int c, int d, int e) throws IllegalStateException {
        if (tape.size > MOST_TAPE - FED_AT_ONCE) {
            throw new IllegalStateException("the tape would have more than 1000 bytes");
        }
        tape.appendNumber(a);
        tape.appendNumber(b);
        tape.appendNumber(c);
        tape.appendNumber(d);
        tape.appendNumber(e);
        return tape.size;
    }

    public int trim(int n) throws IllegalArgumentException {
        if (n < 0 || n > tape.size) {
            throw new IllegalArgumentException("n is not 0 to the number of bytes of the tape");
        }
        tape.size = n;
        return n;
    }

    public int addRule(int mode, int next, boolean isLeftOut)
            throws IllegalArgumentException, IllegalStateException {
        if (!isMode(mode) || !isMode(next)) {
            throw new IllegalArgumentException("a mode is not 0 to 3");
        }
        Rule rule = book.freeRow();
        if (rule == null) {
            throw new IllegalStateException("there are 12 rules");
        }
        rule.clear(mode, next, isLeftOut);
        errorPlace = reader.readPattern(tape, rule);
        tape.size = 0;
        if (errorPlace != NONE) {
            return BAD_BYTE;
        }
        if (rule.mayTokenBeEmpty) {
            errorPlace = 0;
            return EMPTY_TOKEN;
        }
        rule.findUseful();
        book.keepFreeRow();
        return 0;
    }

    public int errorAt() {
        return errorPlace;
    }

    public int rule(int rule, int what) throws IndexOutOfBoundsException {
        Rule row = book.rowAt(rule);
        if (row == null || what < 0 || what >= RULE_FACTS) {
            throw new IndexOutOfBoundsException("no such rule, or what is not 0 to 5");
        }
        return row.fact(what);
    }

    public int count(int what) throws IndexOutOfBoundsException {
        if (what < 0 || what >= COUNTS) {
            throw new IndexOutOfBoundsException("what is not 0 to 2");
        }
        return countOf(what);
    }

    // ---- machines

    public int build() throws IllegalStateException {
        for (int mode = 0; mode < MODES; mode++) {
            if (!maker.makeMachine(book, mode, spareMachines.ofMode(mode))) {
                throw new IllegalStateException("a mode is too great");
            }
        }
        MachineSet old = machines;
        machines = spareMachines;
        spareMachines = old;
        builtRules = book.size;
        isBuilt = true;
        return machines.allStates();
    }

    public int states(int mode) throws IndexOutOfBoundsException {
        Machine machine = machines.ofMode(mode);
        if (machine == null) {
            throw new IndexOutOfBoundsException("mode is not 0 to 3");
        }
        return machine.size;
    }

    public int next(int mode, int state, int letter) throws IndexOutOfBoundsException {
        Machine machine = machines.ofMode(mode);
        if (machine == null || !machine.hasState(state) || letter < 0 || letter >= LETTERS) {
            throw new IndexOutOfBoundsException("no such mode, state or letter");
        }
        return machine.stateBehind(state, letter);
    }

    public int answer(int mode, int state) throws IndexOutOfBoundsException {
        Machine machine = machines.ofMode(mode);
        if (machine == null || !machine.hasState(state)) {
            throw new IndexOutOfBoundsException("no such mode or state");
        }
        return machine.answerOf(state);
    }

    public boolean isMet(int rule) throws IndexOutOfBoundsException {
        if (!book.has(rule)) {
            throw new IndexOutOfBoundsException("no such rule");
        }
        Machine machine = machineAbout(rule);
        return machine != null && machine.firstStateWith(rule) != NONE;
    }

    public long words(int rule, int length) throws IndexOutOfBoundsException, IllegalArgumentException {
        if (!book.has(rule)) {
            throw new IndexOutOfBoundsException("no such rule");
        }
        if (length < 0 || length > MOST_LENGTH) {
            throw new IllegalArgumentException("length is not 0 to 18");
        }
        Machine machine = machineAbout(rule);
        return machine == null ? 0L : machine.wordsWith(rule, length);
    }

    public int shortest(int rule, int index) throws IndexOutOfBoundsException {
        if (!book.has(rule) || index < 0 || index > MOST_INDEX) {
            throw new IndexOutOfBoundsException("no such rule, or index is not 0 to 100");
        }
        Machine machine = machineAbout(rule);
        return machine == null ? NONE : machine.letterOfFirstWord(machine.firstStateWith(rule), index);
    }

    // ---- scanning

    public int scan() throws IllegalStateException {
        if (!isBuilt) {
            throw new IllegalStateException("there was no build() yet");
        }
        cutter.cutTape(tape, machines, book);
        tape.size = 0;
        return cutter.size;
    }

    public int token(int token, int what) throws IndexOutOfBoundsException {
        if (token < 0 || token >= cutter.size || what < 0 || what >= TOKEN_FACTS) {
            throw new IndexOutOfBoundsException("no such token, or what is not 0 to 3");
        }
        return cutter.tokenFact(token, what);
    }

    public int scanned(int what) throws IndexOutOfBoundsException {
        if (what < 0 || what >= SCAN_FACTS) {
            throw new IndexOutOfBoundsException("what is not 0 to 3");
        }
        return cutter.scanFact(what);
    }

    public double meanLength() {
        int tokens = cutter.size;
        return tokens <= 0 ? 0.0 : (double) cutter.lengthOfAll() / tokens;
    }

    public long digest() {
        long sum = DIGEST_START;
        for (int what = 0; what < COUNTS; what++) {
            sum = mixed(sum, countOf(what));
        }
        sum = mixedWithRules(sum);
        for (int mode = 0; mode < MODES; mode++) {
            sum = mixedWithMachine(sum, machines.ofMode(mode));
        }
        sum = mixedWithTokens(sum);
        for (int what = 0; what < SCAN_FACTS; what++) {
            sum = mixed(sum, cutter.scanFact(what));
        }
        return sum;
    }

    private static long mixed(long sum, int number) {
        return sum * DIGEST_FACTOR + number;
    }

    private long mixedWithRules(long start) {
        long sum = start;
        for (int r = 0; r < MOST_RULES; r++) {
            Rule row = book.rowAt(r);
            for (int what = 0; row != null && what < RULE_FACTS; what++) {
                sum = mixed(sum, row.fact(what));
            }
        }
        return sum;
    }

    private static long mixedWithMachine(long start, Machine machine) {
        if (machine == null) {
            return start;
        }
        long sum = mixed(start, machine.size);
        for (int state = 0; state < machine.size && state < MOST_SETS; state++) {
            sum = mixed(sum, machine.answerOf(state));
            for (int letter = 0; letter < LETTERS; letter++) {
                sum = mixed(sum, machine.stateBehind(state, letter));
            }
        }
        return sum;
    }

    private long mixedWithTokens(long start) {
        long sum = start;
        for (int t = 0; t < cutter.size && t < MOST_TOKENS; t++) {
            for (int what = 0; what < TOKEN_FACTS; what++) {
                sum = mixed(sum, cutter.tokenFact(t, what));
            }
        }
        return sum;
    }

    private static boolean isMode(int mode) {
        return mode >= 0 && mode < MODES;
    }

    private int countOf(int what) {
        return what == 0 ? book.size : what == 1 ? tape.size : cutter.size;
    }

    /** The machine of the rule's mode; null if the rule came behind the latest build(). */
    private Machine machineAbout(int rule) {
        Rule row = rule < builtRules ? book.rowAt(rule) : null;
        return row == null ? null : machines.ofMode(row.mode);
    }

    /** The row of bytes that is fed. */
    private static final class Tape {
        private final int[] bytes = new int[MOST_TAPE];
        private int size;

        void appendNumber(int number) {
            for (int shift = 24; shift >= 0; shift -= 8) {
                if (size >= 0 && size < MOST_TAPE) {
                    bytes[size] = number >>> shift & 255;
                    size++;
                }
            }
        }

        int byteAt(int position) {
            return position >= 0 && position < size && position < MOST_TAPE ? bytes[position] : NONE;
        }

        /** 0 to 7 for a to h; -1 for any other byte. */
        int letterAt(int position) {
            int letter = byteAt(position) - FIRST_LETTER;
            return letter >= 0 && letter < LETTERS ? letter : NONE;
        }
    }

    /**
     * A rule and its pattern. Places are numbered from left to right; a set of them is a number with a bit for each,
     * so those of the token are the low bits.
     */
    private static final class Rule {
        private final int[] followers = new int[MOST_PLACES];
        private final int[] placesOfLetter = new int[LETTERS];
        private int mode;
        private int nextMode;
        private boolean isLeftOut;
        private boolean hasLook;
        private int places;
        // The places of the token, as a set; the others are those of what must follow.
        private int tokenPlaces;
        private int first;
        private int last;
        private int tokenLast;
        private int lookFirst;
        private boolean mayTokenBeEmpty;
        private boolean mayLookBeEmpty;
        private int useful;

        void clear(int ownMode, int modeBehind, boolean leftOut) {
            mode = ownMode;
            nextMode = modeBehind;
            isLeftOut = leftOut;
            hasLook = false;
            places = 0;
            for (int p = 0; p < MOST_PLACES; p++) {
                followers[p] = 0;
            }
            for (int letter = 0; letter < LETTERS; letter++) {
                placesOfLetter[letter] = 0;
            }
        }

        /** Adds a place that matches the letters; returns it as a set. */
        int addPlace(int letters) {
            int place = 1 << places;
            places++;
            for (int letter = 0; letter < LETTERS; letter++) {
                if ((letters >>> letter & 1) != 0) {
                    placesOfLetter[letter] |= place;
                }
            }
            return place;
        }

        void setToken(int firstPlaces, int lastPlaces, boolean mayBeEmpty) {
            tokenPlaces = (1 << places) - 1;
            first = firstPlaces;
            tokenLast = lastPlaces;
            last = lastPlaces;
            mayTokenBeEmpty = mayBeEmpty;
        }

        void setLook(int firstPlaces, int lastPlaces, boolean mayBeEmpty) {
            hasLook = true;
            lookFirst = firstPlaces;
            mayLookBeEmpty = mayBeEmpty;
            letFollow(tokenLast, firstPlaces);
            last = mayBeEmpty ? lastPlaces | tokenLast : lastPlaces;
        }

        void letFollow(int from, int to) {
            for (int p = 0; p < MOST_PLACES; p++) {
                if ((from >>> p & 1) != 0) {
                    followers[p] |= to;
                }
            }
        }

        int followersOf(int set) {
            int all = 0;
            for (int p = 0; p < MOST_PLACES; p++) {
                if ((set >>> p & 1) != 0) {
                    all |= followers[p];
                }
            }
            return all;
        }

        /** The places of the set that one of the others follows. */
        int followedBy(int others, int set) {
            int found = 0;
            for (int p = 0; p < MOST_PLACES; p++) {
                if ((set >>> p & 1) != 0 && (followers[p] & others) != 0) {
                    found |= 1 << p;
                }
            }
            return found;
        }

        /** Only places from which the end of a word can be come to count, so the others are struck out. */
        void findUseful() {
            int matching = 0;
            for (int letter = 0; letter < LETTERS; letter++) {
                matching |= placesOfLetter[letter];
            }
            useful = last & matching;
            int before = 0;
            for (int round = 0; round < MOST_PLACES && useful != before; round++) {
                before = useful;
                useful |= followedBy(useful, matching);
            }
            for (int letter = 0; letter < LETTERS; letter++) {
                placesOfLetter[letter] &= useful;
            }
        }

        /** The places on words that are met that match the letter; none if it is no letter. */
        int placesOn(int letter) {
            return letter >= 0 && letter < LETTERS ? placesOfLetter[letter] : 0;
        }

        int fact(int what) {
            switch (what) {
                case 0:
                    return mode;
                case 1:
                    return nextMode;
                case 2:
                    return isLeftOut ? 1 : 0;
                case 3:
                    return hasLook ? 1 : 0;
                case 4:
                    return places;
                default:
                    return Integer.bitCount(first & useful);
            }
        }
    }

    /** All rules, and a free row behind them in which a new one is put together. */
    private static final class RuleBook {
        private final Rule[] rows = new Rule[MOST_RULES];
        private int size;

        RuleBook() {
            for (int r = 0; r < MOST_RULES; r++) {
                rows[r] = new Rule();
            }
        }

        boolean has(int rule) {
            return rule >= 0 && rule < size;
        }

        Rule rowAt(int rule) {
            return rule >= 0 && rule < size && rule < MOST_RULES ? rows[rule] : null;
        }

        Rule rowOfMode(int rule, int mode) {
            Rule row = rowAt(rule);
            return row != null && row.mode == mode ? row : null;
        }

        /** Null if there are as many rules as there can be. */
        Rule freeRow() {
            return size >= 0 && size < MOST_RULES ? rows[size] : null;
        }

        void keepFreeRow() {
            if (size < MOST_RULES) {
                size++;
            }
        }
    }

    /**
     * Reads a pattern by descent. Each part that was read lies on a pile: its first places, its last ones, and
     * whether it may be empty. Behind an error peek() tells the end, so that all that is open ends at once.
     */
    private static final class Reader {
        private final int[] signs = new int[MOST_BYTES];
        private final int[] firsts = new int[MOST_BYTES];
        private final int[] lasts = new int[MOST_BYTES];
        private final boolean[] empties = new boolean[MOST_BYTES];
        private int top;
        private int at;
        private int error;

        /** Puts the pattern on the tape into the rule; returns the position of its error 1, -1 if it has none. */
        int readPattern(Tape tape, Rule rule) {
            for (int i = 0; i < MOST_BYTES; i++) {
                signs[i] = tape.byteAt(i);
            }
            top = 0;
            at = 0;
            error = NONE;
            readEither(rule, 0);
            if (top == 1) {
                rule.setToken(firsts[0], lasts[0], empties[0]);
            }
            if (peek() == '/') {
                readLook(rule);
            }
            // What is left is a byte that does not belong here, or the 41st one.
            if (at < tape.size) {
                fail();
            }
            return error;
        }

        private void readLook(Rule rule) {
            at++;
            top = 0;
            readEither(rule, 0);
            if (top == 1) {
                rule.setLook(firsts[0], lasts[0], empties[0]);
            }
        }

        private void readEither(Rule rule, int depth) {
            readRow(rule, depth);
            for (int n = 0; n < MOST_BYTES && peek() == '|'; n++) {
                at++;
                readRow(rule, depth);
                joinAsEither();
            }
        }

        private void readRow(Rule rule, int depth) {
            readItem(rule, depth);
            for (int n = 0; n < MOST_BYTES && beginsAtom(peek()); n++) {
                readItem(rule, depth);
                joinAsRow(rule);
            }
        }

        private void readItem(Rule rule, int depth) {
            readAtom(rule, depth);
            int sign = peek();
            boolean hasPart = top >= 1 && top <= MOST_BYTES;
            if (!hasPart || sign != '*' && sign != '+' && sign != '?') {
                return;
            }
            at++;
            if (sign != '?') {
                rule.letFollow(lasts[top - 1], firsts[top - 1]);
            }
            if (sign != '+') {
                empties[top - 1] = true;
            }
        }

        private void readAtom(Rule rule, int depth) {
            int sign = peek();
            if (sign == '(') {
                readGroup(rule, depth);
            } else if (!beginsAtom(sign) || rule.places >= MOST_PLACES) {
                fail();
            } else if (sign == '[') {
                readSpans(rule);
            } else {
                at++;
                pushPlace(rule, sign == '.' ? ALL_LETTERS : bitOf(sign));
            }
        }

        private void readGroup(Rule rule, int depth) {
            if (depth >= MOST_DEPTH) {
                fail();
                return;
            }
            at++;
            readEither(rule, depth + 1);
            readClosing(')');
        }

        private void readSpans(Rule rule) {
            at++;
            int letters = readSpan();
            for (int n = 0; n < MOST_BYTES && isLetter(peek()); n++) {
                letters |= readSpan();
            }
            readClosing(']');
            pushPlace(rule, letters);
        }

        private int readSpan() {
            int from = readLetter();
            if (peek() != '-') {
                return bitOf(from);
            }
            at++;
            int to = readLetter();
            int letters = 0;
            for (int n = 0; n < LETTERS; n++) {
                int sign = FIRST_LETTER + n;
                letters |= sign >= from && sign <= to ? bitOf(sign) : 0;
            }
            return letters;
        }

        private int readLetter() {
            int sign = peek();
            if (isLetter(sign)) {
                at++;
            } else {
                fail();
            }
            return sign;
        }

        private void readClosing(int sign) {
            if (peek() == sign) {
                at++;
            } else {
                fail();
            }
        }

        private void fail() {
            if (error == NONE) {
                error = at;
            }
        }

        private int peek() {
            return error == NONE && at >= 0 && at < MOST_BYTES ? signs[at] : NONE;
        }

        private static boolean isLetter(int sign) {
            return sign >= FIRST_LETTER && sign < FIRST_LETTER + LETTERS;
        }

        private static int bitOf(int sign) {
            return isLetter(sign) ? 1 << (sign - FIRST_LETTER) : 0;
        }

        private static boolean beginsAtom(int sign) {
            return isLetter(sign) || sign == '.' || sign == '[' || sign == '(';
        }

        private void pushPlace(Rule rule, int letters) {
            if (error != NONE || top < 0 || top >= MOST_BYTES) {
                return;
            }
            int place = rule.addPlace(letters);
            firsts[top] = place;
            lasts[top] = place;
            empties[top] = false;
            top++;
        }

        /** Makes the two upper parts one: the one or the other. */
        private void joinAsEither() {
            if (!hasTwoParts()) {
                return;
            }
            int left = top - 2;
            int right = top - 1;
            firsts[left] |= firsts[right];
            lasts[left] |= lasts[right];
            empties[left] = empties[left] || empties[right];
            top = right;
        }

        /** Makes the two upper parts one: the one behind the other. */
        private void joinAsRow(Rule rule) {
            if (!hasTwoParts()) {
                return;
            }
            int left = top - 2;
            int right = top - 1;
            rule.letFollow(lasts[left], firsts[right]);
            if (empties[left]) {
                firsts[left] |= firsts[right];
            }
            lasts[left] = empties[right] ? lasts[left] | lasts[right] : lasts[right];
            empties[left] = empties[left] && empties[right];
            top = right;
        }

        private boolean hasTwoParts() {
            return error == NONE && top >= 2 && top <= MOST_BYTES;
        }
    }

    /** A machine of a mode. Its states are numbered as they are come to, 0 is that of the empty word. */
    private static final class Machine {
        private final int[] moves = new int[MOST_SETS * LETTERS];
        private final int[] answers = new int[MOST_SETS];
        // By which state and letter a state was come to first: the way back along its shortest word.
        private final int[] parents = new int[MOST_SETS];
        private final int[] arrivals = new int[MOST_SETS];
        private final int[] depths = new int[MOST_SETS];
        private final long[] ways = new long[MOST_SETS];
        private final long[] longerWays = new long[MOST_SETS];
        private int size;

        void clear() {
            size = 0;
        }

        /** Adds a state to which the letter leads from the parent, and returns its number. */
        int addState(int answer, int parent, int letter) {
            if (size < 0 || size >= MOST_SETS) {
                return NONE;
            }
            int state = size;
            answers[state] = answer;
            parents[state] = parent;
            arrivals[state] = letter;
            depths[state] = hasState(parent) ? depths[parent] + 1 : 0;
            size++;
            return state;
        }

        void setMove(int state, int letter, int target) {
            if (hasState(state) && letter >= 0 && letter < LETTERS) {
                moves[state * LETTERS + letter] = target;
            }
        }

        boolean hasState(int state) {
            return state >= 0 && state < size && state < MOST_SETS;
        }

        /** -1 also if there is no such state, or it is no letter. */
        int stateBehind(int state, int letter) {
            return hasState(state) && letter >= 0 && letter < LETTERS ? moves[state * LETTERS + letter] : NONE;
        }

        int answerOf(int state) {
            return hasState(state) ? answers[state] : NONE;
        }

        /** As states are numbered in the order of their shortest words, this one has the rule's shortest word. */
        int firstStateWith(int rule) {
            for (int state = 0; state < size && state < MOST_SETS; state++) {
                if (answers[state] == rule) {
                    return state;
                }
            }
            return NONE;
        }

        /** The letter at the index of the first word that leads to the state; -1 behind its end. */
        int letterOfFirstWord(int state, int index) {
            int length = hasState(state) ? depths[state] : 0;
            if (index < 0 || index >= length) {
                return NONE;
            }
            int on = state;
            for (int back = length - 1; back > index && hasState(on); back--) {
                on = parents[on];
            }
            return hasState(on) ? arrivals[on] : NONE;
        }

        long wordsWith(int rule, int length) {
            for (int state = 0; state < MOST_SETS; state++) {
                ways[state] = state == 0 && size > 0 ? 1L : 0L;
            }
            for (int n = 0; n < length && n < MOST_LENGTH; n++) {
                lengthenWays();
            }
            long sum = 0L;
            for (int state = 0; state < size && state < MOST_SETS; state++) {
                sum += answers[state] == rule ? ways[state] : 0L;
            }
            return sum;
        }

        private void lengthenWays() {
            for (int state = 0; state < MOST_SETS; state++) {
                longerWays[state] = 0L;
            }
            for (int state = 0; state < size && state < MOST_SETS; state++) {
                for (int letter = 0; letter < LETTERS; letter++) {
                    int target = stateBehind(state, letter);
                    if (hasState(target)) {
                        longerWays[target] += ways[state];
                    }
                }
            }
            System.arraycopy(longerWays, 0, ways, 0, MOST_SETS);
        }
    }

    /** The machines of all modes. */
    private static final class MachineSet {
        private final Machine[] rows = new Machine[MODES];

        MachineSet() {
            for (int mode = 0; mode < MODES; mode++) {
                rows[mode] = new Machine();
            }
        }

        /** Null if there is no such mode. */
        Machine ofMode(int mode) {
            return isMode(mode) ? rows[mode] : null;
        }

        int allStates() {
            int sum = 0;
            for (int mode = 0; mode < MODES; mode++) {
                Machine machine = ofMode(mode);
                sum += machine == null ? 0 : machine.size;
            }
            return sum;
        }
    }

    /** Finds the sets that can be come to in a mode, puts the alike ones together and numbers what is left. */
    private static final class Maker {
        private static final int TOO_MANY = -2;

        // A row for each set, in it the places of each rule; row 0 is that of the empty word.
        private final int[] sets = new int[MOST_SETS * MOST_RULES];
        private final int[] moves = new int[MOST_SETS * LETTERS];
        private final int[] answers = new int[MOST_SETS];
        private final int[] behind = new int[MOST_RULES];
        private final int[] wanted = new int[MOST_RULES];
        // The kind of a set is the first set that is alike to it, so far as has been looked.
        private final int[] kinds = new int[MOST_SETS];
        private final int[] finerKinds = new int[MOST_SETS];
        private final int[] numbers = new int[MOST_SETS];
        private final int[] order = new int[MOST_SETS];
        private int size;

        /** Tells whether the mode was small enough. */
        boolean makeMachine(RuleBook book, int mode, Machine machine) {
            if (machine == null || !findSets(book, mode)) {
                return false;
            }
            findKinds();
            numberKinds(machine);
            return true;
        }

        private boolean findSets(RuleBook book, int mode) {
            size = 1;
            for (int r = 0; r < MOST_RULES; r++) {
                sets[r] = 0;
            }
            for (int set = 0; set < size && set < MOST_SETS; set++) {
                lookBehind(book, set, mode);
                for (int letter = 0; letter < LETTERS; letter++) {
                    int move = setOn(book, letter);
                    if (move == TOO_MANY) {
                        return false;
                    }
                    moves[set * LETTERS + letter] = move;
                }
            }
            return true;
        }

        /** Notes the answer of a set, and which places can be behind it. */
        private void lookBehind(RuleBook book, int set, int mode) {
            answers[set] = NONE;
            for (int r = 0; r < MOST_RULES; r++) {
                Rule rule = book.rowOfMode(r, mode);
                behind[r] = 0;
                if (rule != null) {
                    int places = sets[set * MOST_RULES + r];
                    behind[r] = set == 0 ? rule.first : rule.followersOf(places);
                    if (answers[set] == NONE && (places & rule.last) != 0) {
                        answers[set] = r;
                    }
                }
            }
        }

        private int setOn(RuleBook book, int letter) {
            int all = 0;
            for (int r = 0; r < MOST_RULES; r++) {
                Rule rule = book.rowAt(r);
                wanted[r] = rule == null ? 0 : behind[r] & rule.placesOn(letter);
                all |= wanted[r];
            }
            return all == 0 ? NONE : numberOfWanted();
        }

        private int numberOfWanted() {
            // The empty word's set is its own, so the search begins behind it.
            for (int set = 1; set < size && set < MOST_SETS; set++) {
                if (isWanted(set)) {
                    return set;
                }
            }
            if (size >= MOST_SETS) {
                return TOO_MANY;
            }
            System.arraycopy(wanted, 0, sets, size * MOST_RULES, MOST_RULES);
            size++;
            return size - 1;
        }

        private boolean isWanted(int set) {
            for (int r = 0; r < MOST_RULES; r++) {
                if (sets[set * MOST_RULES + r] != wanted[r]) {
                    return false;
                }
            }
            return true;
        }

        private void findKinds() {
            for (int set = 0; set < MOST_SETS; set++) {
                kinds[set] = 0;
            }
            int found = 0;
            for (int round = 0; round <= MOST_SETS; round++) {
                int before = found;
                found = refineKinds();
                if (found == before) {
                    return;
                }
            }
        }

        /** Parts the sets that are not alike by one more letter; returns how many kinds there are then. */
        private int refineKinds() {
            int found = 0;
            for (int set = 0; set < size && set < MOST_SETS; set++) {
                finerKinds[set] = set;
                for (int other = 0; other < set; other++) {
                    if (finerKinds[other] == other && areAlike(set, other)) {
                        finerKinds[set] = other;
                        break;
                    }
                }
                found += finerKinds[set] == set ? 1 : 0;
            }
            System.arraycopy(finerKinds, 0, kinds, 0, MOST_SETS);
            return found;
        }

        private boolean areAlike(int set, int other) {
            if (kinds[set] != kinds[other] || answers[set] != answers[other]) {
                return false;
            }
            for (int letter = 0; letter < LETTERS; letter++) {
                if (kindBehind(set, letter) != kindBehind(other, letter)) {
                    return false;
                }
            }
            return true;
        }

        private int kindBehind(int set, int letter) {
            int move = moves[set * LETTERS + letter];
            return move >= 0 && move < size && move < MOST_SETS ? kinds[move] : NONE;
        }

        private void numberKinds(Machine machine) {
            machine.clear();
            // From every other set a rule can be come to; from the empty word only if a letter leads on.
            if (size < 2) {
                return;
            }
            for (int set = 0; set < MOST_SETS; set++) {
                numbers[set] = NONE;
            }
            numberKind(machine, kinds[0], NONE, NONE);
            for (int state = 0; state < machine.size && state < MOST_SETS; state++) {
                for (int letter = 0; letter < LETTERS; letter++) {
                    int target = numberKind(machine, kindBehind(order[state], letter), state, letter);
                    machine.setMove(state, letter, target);
                }
            }
        }

        /** The state of a kind, a new one if it has none yet. */
        private int numberKind(Machine machine, int kind, int parent, int letter) {
            if (kind < 0 || kind >= MOST_SETS) {
                return NONE;
            }
            if (numbers[kind] == NONE) {
                int state = machine.addState(answers[kind], parent, letter);
                if (state >= 0 && state < MOST_SETS) {
                    numbers[kind] = state;
                    order[state] = kind;
                }
            }
            return numbers[kind];
        }
    }

    /** Cuts the tape into tokens. */
    private static final class Cutter {
        private final int[] tokens = new int[MOST_TOKENS * TOKEN_FACTS];
        // For each length whether the token of a rule with a / may end behind it.
        private final boolean[] ends = new boolean[MOST_TAPE + 1];
        private int size;
        private int mode;
        private int position;
        private int unknown;
        private int leftOut;
        // The longest piece that is met from the position on.
        private int pieceLength;
        private int pieceRule;

        void cutTape(Tape tape, MachineSet machines, RuleBook book) {
            size = 0;
            mode = 0;
            position = 0;
            unknown = 0;
            leftOut = 0;
            boolean isOn = true;
            for (int n = 0; isOn && n < MOST_TAPE && position < tape.size; n++) {
                findPiece(tape, machines.ofMode(mode));
                Rule rule = book.rowAt(pieceRule);
                isOn = rule == null ? cutUnknown() : cutToken(tape, rule);
            }
        }

        int tokenFact(int token, int what) {
            int index = token * TOKEN_FACTS + what;
            return index >= 0 && index < MOST_TOKENS * TOKEN_FACTS ? tokens[index] : NONE;
        }

        int scanFact(int what) {
            return what == 0 ? mode : what == 1 ? position : what == 2 ? unknown : leftOut;
        }

        int lengthOfAll() {
            int sum = 0;
            for (int t = 0; t < size && t < MOST_TOKENS; t++) {
                sum += tokenFact(t, 2);
            }
            return sum;
        }

        private void findPiece(Tape tape, Machine machine) {
            pieceLength = 0;
            pieceRule = NONE;
            int state = 0;
            for (int i = position; machine != null && i < tape.size && state != NONE; i++) {
                state = machine.stateBehind(state, tape.letterAt(i));
                int answer = machine.answerOf(state);
                if (answer != NONE) {
                    pieceLength = i - position + 1;
                    pieceRule = answer;
                }
            }
        }

        /** Tells whether there was room for the byte. */
        private boolean cutUnknown() {
            if (!noteToken(NONE, 1)) {
                return false;
            }
            unknown++;
            position++;
            return true;
        }

        /** Tells whether there was room for the token. */
        private boolean cutToken(Tape tape, Rule rule) {
            int length = rule.hasLook ? tokenLength(tape, rule) : pieceLength;
            if (rule.isLeftOut) {
                leftOut++;
            } else if (!noteToken(pieceRule, length)) {
                return false;
            }
            position += length;
            mode = rule.nextMode;
            return true;
        }

        private boolean noteToken(int rule, int length) {
            int index = size * TOKEN_FACTS;
            if (index < 0 || index > (MOST_TOKENS - 1) * TOKEN_FACTS) {
                return false;
            }
            tokens[index] = rule;
            tokens[index + 1] = position;
            tokens[index + 2] = length;
            tokens[index + 3] = mode;
            size++;
            return true;
        }

        /** The longest beginning of the piece that is a token so that the rest is what must follow. */
        private int tokenLength(Tape tape, Rule rule) {
            findEnds(tape, rule);
            if (rule.mayLookBeEmpty && endsAt(pieceLength)) {
                return pieceLength;
            }
            int places = rule.last & ~rule.tokenPlaces;
            for (int length = pieceLength - 1; length > 0; length--) {
                places &= rule.placesOn(tape.letterAt(position + length));
                if (endsAt(length) && (places & rule.lookFirst) != 0) {
                    return length;
                }
                places = rule.followedBy(places, ~rule.tokenPlaces);
            }
            return pieceLength;
        }

        private void findEnds(Tape tape, Rule rule) {
            int places = rule.first;
            for (int length = 1; length <= pieceLength && length <= MOST_TAPE; length++) {
                places &= rule.placesOn(tape.letterAt(position + length - 1));
                ends[length] = (places & rule.tokenLast) != 0;
                places = rule.followersOf(places) & rule.tokenPlaces;
            }
        }

        private boolean endsAt(int length) {
            return length >= 0 && length <= MOST_TAPE && ends[length];
        }
    }
}
