import java.util.ArrayList;
import java.util.Arrays;
import java.util.BitSet;
import java.util.LinkedHashMap;
import java.util.List;
import java.util.Map;
import java.util.TreeSet;

/**
 * A second program of the document, that goes other ways than the class: errors are found byte by byte, words are
 * matched on the tree of the pattern, sets are found on an automaton with empty moves, and states that are alike by
 * marking the pairs that are not.
 */
final class Model {
    /** A part of a pattern: letters at a place, a row, one or the other, or a repetition. */
    static final class Part {
        char kind;
        int letters;
        int place;
        List<Part> parts = new ArrayList<>();
        boolean mayBeNone;
        boolean mayBeMany;

        Part(char kind) {
            this.kind = kind;
        }
    }

    static final class Rule {
        int mode;
        int next;
        boolean isLeftOut;
        Part token;
        Part look;
        int places;
        Automaton automaton;
    }

    /** States with empty moves, and one move with letters for each place. */
    static final class Automaton {
        List<int[]> empties = new ArrayList<>();
        int[] from = new int[64];
        int[] to = new int[64];
        int[] letters = new int[64];
        int states;
        int places;
        int start;
        int end;
        boolean[] isLive;
    }

    /** The sets of a mode, in the order in which they are come to. */
    static final class Sets {
        List<String> keys = new ArrayList<>();
        List<String> words = new ArrayList<>();
        List<int[]> moves = new ArrayList<>();
        List<Integer> answers = new ArrayList<>();
        List<int[]> stateMoves = new ArrayList<>();
        List<Integer> stateAnswers = new ArrayList<>();
    }

    private final List<Integer> tape = new ArrayList<>();
    private final List<Rule> rules = new ArrayList<>();
    private Sets[] machines = new Sets[4];
    private int builtRules;
    private boolean isBuilt;
    private int errorAt = -1;
    private List<int[]> tokens = new ArrayList<>();
    private int[] ends = new int[4];

    // ---- rules

    int feed(int... numbers) {
        if (tape.size() + 20 > 1000) {
            throw new IllegalStateException();
        }
        for (int number : numbers) {
            tape.add(number >> 24 & 255);
            tape.add(number >> 16 & 255);
            tape.add(number >> 8 & 255);
            tape.add(number & 255);
        }
        return tape.size();
    }

    int trim(int n) {
        if (n < 0 || n > tape.size()) {
            throw new IllegalArgumentException();
        }
        while (tape.size() > n) {
            tape.remove(tape.size() - 1);
        }
        return n;
    }

    private String takeTape() {
        StringBuilder text = new StringBuilder();
        for (int b : tape) {
            text.append((char) b);
        }
        tape.clear();
        return text.toString();
    }

    int addRule(int mode, int next, boolean isLeftOut) {
        if (mode < 0 || mode > 3 || next < 0 || next > 3) {
            throw new IllegalArgumentException();
        }
        if (rules.size() == 12) {
            throw new IllegalStateException();
        }
        String text = takeTape();
        errorAt = firstError(text);
        if (errorAt >= 0) {
            return 1;
        }
        Rule rule = new Rule();
        rule.mode = mode;
        rule.next = next;
        rule.isLeftOut = isLeftOut;
        int slash = text.indexOf('/');
        rule.token = eitherOf(slash < 0 ? text : text.substring(0, slash), rule);
        rule.look = slash < 0 ? null : eitherOf(text.substring(slash + 1), rule);
        if (endsOf(rule.token, "", one(0)).get(0)) {
            errorAt = 0;
            return 2;
        }
        rule.automaton = automatonOf(rule);
        rules.add(rule);
        return 0;
    }

    /** Goes through the bytes one by one, with what may come next; -1 if the text is a pattern. */
    static int firstError(String text) {
        String due = "atom";
        int depth = 0;
        int places = 0;
        boolean hasSlash = false;
        for (int i = 0; i < text.length(); i++) {
            char c = text.charAt(i);
            boolean isLetter = c >= 'a' && c <= 'h';
            boolean isBehindItem = due.equals("sign") || due.equals("nosign");
            if (i == 40) {
                return i;
            }
            if (due.equals("letter") || due.equals("to")) {
                if (!isLetter) {
                    return i;
                }
                due = due.equals("to") ? "span" : "dash";
            } else if (due.equals("span") || due.equals("dash")) {
                if (isLetter) {
                    due = "dash";
                } else if (c == ']') {
                    due = "sign";
                } else if (c == '-' && due.equals("dash")) {
                    due = "to";
                } else {
                    return i;
                }
            } else if (isLetter || c == '.' || c == '[') {
                places++;
                if (places > 30) {
                    return i;
                }
                due = c == '[' ? "letter" : "sign";
            } else if (c == '(') {
                depth++;
                if (depth > 6) {
                    return i;
                }
                due = "atom";
            } else if (c == ')' && isBehindItem && depth > 0) {
                depth--;
                due = "sign";
            } else if (c == '|' && isBehindItem) {
                due = "atom";
            } else if (c == '/' && isBehindItem && depth == 0 && !hasSlash) {
                hasSlash = true;
                due = "atom";
            } else if ((c == '*' || c == '+' || c == '?') && due.equals("sign")) {
                due = "nosign";
            } else {
                return i;
            }
        }
        return depth == 0 && (due.equals("sign") || due.equals("nosign")) ? -1 : text.length();
    }

    /** Cuts a good pattern at the bars that are in no bracket. */
    private static Part eitherOf(String text, Rule rule) {
        Part either = new Part('|');
        int depth = 0;
        int from = 0;
        for (int i = 0; i <= text.length(); i++) {
            char c = i < text.length() ? text.charAt(i) : '|';
            depth += c == '(' ? 1 : c == ')' ? -1 : 0;
            if (c == '|' && depth == 0) {
                either.parts.add(rowOf(text.substring(from, i), rule));
                from = i + 1;
            }
        }
        return either;
    }

    private static Part rowOf(String text, Rule rule) {
        Part row = new Part('&');
        int i = 0;
        while (i < text.length()) {
            int end = i + 1;
            Part part;
            if (text.charAt(i) == '(') {
                for (int depth = 1; depth > 0; end++) {
                    depth += text.charAt(end) == '(' ? 1 : text.charAt(end) == ')' ? -1 : 0;
                }
                part = eitherOf(text.substring(i + 1, end - 1), rule);
            } else {
                end = text.charAt(i) == '[' ? text.indexOf(']', i) + 1 : end;
                part = new Part('a');
                part.letters = lettersOf(text.substring(i, end));
                part.place = rule.places++;
            }
            if (end < text.length() && "*+?".indexOf(text.charAt(end)) >= 0) {
                Part many = new Part('*');
                many.mayBeNone = text.charAt(end) != '+';
                many.mayBeMany = text.charAt(end) != '?';
                many.parts.add(part);
                part = many;
                end++;
            }
            row.parts.add(part);
            i = end;
        }
        return row;
    }

    private static int lettersOf(String text) {
        int letters = 0;
        for (char c = 'a'; c <= 'h'; c++) {
            boolean isIn = text.equals(".");
            for (int i = 0; i < text.length(); i++) {
                boolean isSpan = i + 2 < text.length() && text.charAt(i + 1) == '-';
                char from = text.charAt(i);
                char to = isSpan ? text.charAt(i + 2) : from;
                isIn |= c >= from && c <= to;
                i += isSpan ? 2 : 0;
            }
            letters |= isIn ? 1 << (c - 'a') : 0;
        }
        return letters;
    }

    private static BitSet one(int bit) {
        BitSet set = new BitSet();
        set.set(bit);
        return set;
    }

    /** Where what the part matches can end in the text, if it begins at one of the starts. */
    private static BitSet endsOf(Part part, String text, BitSet starts) {
        BitSet found = new BitSet();
        switch (part.kind) {
            case 'a':
                for (int i = starts.nextSetBit(0); i >= 0; i = starts.nextSetBit(i + 1)) {
                    int letter = i < text.length() ? text.charAt(i) - 'a' : -1;
                    if (letter >= 0 && letter < 8 && (part.letters >> letter & 1) != 0) {
                        found.set(i + 1);
                    }
                }
                return found;
            case '|':
                for (Part one : part.parts) {
                    found.or(endsOf(one, text, starts));
                }
                return found;
            case '&':
                BitSet on = starts;
                for (Part one : part.parts) {
                    on = endsOf(one, text, on);
                }
                return on;
            default:
                BitSet fresh = endsOf(part.parts.get(0), text, starts);
                while (!fresh.isEmpty()) {
                    found.or(fresh);
                    fresh = part.mayBeMany ? endsOf(part.parts.get(0), text, fresh) : new BitSet();
                    fresh.andNot(found);
                }
                if (part.mayBeNone) {
                    found.or(starts);
                }
                return found;
        }
    }

    private static BitSet endsOf(Rule rule, String text, int start) {
        BitSet tokenEnds = endsOf(rule.token, text, one(start));
        return rule.look == null ? tokenEnds : endsOf(rule.look, text, tokenEnds);
    }

    private static boolean meets(Rule rule, String word) {
        return endsOf(rule, word, 0).get(word.length());
    }

    private static Automaton automatonOf(Rule rule) {
        Automaton a = new Automaton();
        a.start = a.states++;
        int end = addPart(a, rule.token, a.start);
        a.end = rule.look == null ? end : addPart(a, rule.look, end);
        a.isLive = new boolean[a.states];
        a.isLive[a.end] = true;
        for (int round = 0; round < a.states; round++) {
            for (int[] move : a.empties) {
                a.isLive[move[0]] |= a.isLive[move[1]];
            }
            for (int p = 0; p < a.places; p++) {
                a.isLive[a.from[p]] |= a.letters[p] != 0 && a.isLive[a.to[p]];
            }
        }
        return a;
    }

    private static int addPart(Automaton a, Part part, int from) {
        int start = a.states++;
        int end = a.states++;
        a.empties.add(new int[] {from, start});
        switch (part.kind) {
            case 'a':
                a.from[part.place] = start;
                a.to[part.place] = end;
                a.letters[part.place] = part.letters;
                a.places = Math.max(a.places, part.place + 1);
                break;
            case '|':
                for (Part one : part.parts) {
                    a.empties.add(new int[] {addPart(a, one, start), end});
                }
                break;
            case '&':
                int on = start;
                for (Part one : part.parts) {
                    on = addPart(a, one, on);
                }
                a.empties.add(new int[] {on, end});
                break;
            default:
                int behind = addPart(a, part.parts.get(0), start);
                a.empties.add(new int[] {behind, end});
                if (part.mayBeMany) {
                    a.empties.add(new int[] {behind, start});
                }
                if (part.mayBeNone) {
                    a.empties.add(new int[] {start, end});
                }
        }
        return end;
    }

    private static BitSet closed(Automaton a, BitSet states) {
        BitSet all = (BitSet) states.clone();
        int size;
        do {
            size = all.cardinality();
            for (int[] move : a.empties) {
                if (all.get(move[0])) {
                    all.set(move[1]);
                }
            }
        } while (all.cardinality() > size);
        return all;
    }

    /** The places that can match the last letter of the word, if it is the beginning of a word that is met. */
    private static TreeSet<Integer> lastPlaces(Automaton a, String word) {
        BitSet on = closed(a, one(a.start));
        TreeSet<Integer> places = new TreeSet<>();
        for (int i = 0; i < word.length(); i++) {
            BitSet behind = new BitSet();
            places.clear();
            for (int p = 0; p < a.places; p++) {
                boolean isMatch = (a.letters[p] >> (word.charAt(i) - 'a') & 1) != 0;
                if (isMatch && on.get(a.from[p]) && a.isLive[a.to[p]]) {
                    behind.set(a.to[p]);
                    places.add(p);
                }
            }
            on = closed(a, behind);
        }
        return places;
    }

    int errorAt() {
        return errorAt;
    }

    private Rule ruleAt(int rule) {
        if (rule < 0 || rule >= rules.size()) {
            throw new IndexOutOfBoundsException();
        }
        return rules.get(rule);
    }

    int rule(int rule, int what) {
        Rule row = ruleAt(rule);
        switch (what) {
            case 0:
                return row.mode;
            case 1:
                return row.next;
            case 2:
                return row.isLeftOut ? 1 : 0;
            case 3:
                return row.look == null ? 0 : 1;
            case 4:
                return row.places;
            case 5:
                TreeSet<Integer> first = new TreeSet<>();
                for (char c = 'a'; c <= 'h'; c++) {
                    first.addAll(lastPlaces(row.automaton, String.valueOf(c)));
                }
                return first.size();
            default:
                throw new IndexOutOfBoundsException();
        }
    }

    int count(int what) {
        switch (what) {
            case 0:
                return rules.size();
            case 1:
                return tape.size();
            case 2:
                return tokens.size();
            default:
                throw new IndexOutOfBoundsException();
        }
    }

    // ---- machines

    int build() {
        Sets[] made = new Sets[4];
        int all = 0;
        for (int mode = 0; mode < 4; mode++) {
            made[mode] = setsOf(mode);
            findStates(made[mode]);
            all += made[mode].stateMoves.size();
        }
        machines = made;
        builtRules = rules.size();
        isBuilt = true;
        return all;
    }

    private String keyOf(int mode, String word) {
        StringBuilder key = new StringBuilder();
        for (int r = 0; r < rules.size(); r++) {
            if (rules.get(r).mode == mode) {
                for (int place : lastPlaces(rules.get(r).automaton, word)) {
                    key.append(r).append(':').append(place).append(' ');
                }
            }
        }
        return key.toString();
    }

    private int answerTo(int mode, String word) {
        for (int r = 0; r < rules.size(); r++) {
            if (rules.get(r).mode == mode && meets(rules.get(r), word)) {
                return r;
            }
        }
        return -1;
    }

    private Sets setsOf(int mode) {
        Sets sets = new Sets();
        Map<String, Integer> known = new LinkedHashMap<>();
        sets.keys.add("the empty word");
        sets.words.add("");
        for (int s = 0; s < sets.keys.size(); s++) {
            String word = sets.words.get(s);
            int[] moves = new int[8];
            sets.answers.add(answerTo(mode, word));
            for (int letter = 0; letter < 8; letter++) {
                String longer = word + (char) ('a' + letter);
                String key = keyOf(mode, longer);
                if (!key.isEmpty() && !known.containsKey(key)) {
                    known.put(key, sets.keys.size());
                    sets.keys.add(key);
                    sets.words.add(longer);
                    if (sets.keys.size() > 100) {
                        throw new IllegalStateException();
                    }
                }
                moves[letter] = key.isEmpty() ? -1 : known.get(key);
            }
            sets.moves.add(moves);
        }
        return sets;
    }

    private static void findStates(Sets sets) {
        int n = sets.keys.size();
        // The row behind the last one stands for the words from which no rule can be come to.
        int[][] moves = new int[n + 1][8];
        int[] answers = new int[n + 1];
        for (int s = 0; s <= n; s++) {
            answers[s] = s < n ? sets.answers.get(s) : -1;
            for (int l = 0; l < 8; l++) {
                moves[s][l] = s < n && sets.moves.get(s)[l] >= 0 ? sets.moves.get(s)[l] : n;
            }
        }
        boolean[][] differ = markedPairs(moves, answers);
        int[] states = new int[n + 1];
        Arrays.fill(states, -1);
        List<Integer> order = new ArrayList<>();
        if (differ[0][n]) {
            order.add(0);
        }
        for (int i = 0; i < order.size(); i++) {
            int[] row = new int[8];
            for (int l = 0; l < 8; l++) {
                int target = moves[order.get(i)][l];
                row[l] = -1;
                for (int k = 0; k < order.size(); k++) {
                    row[l] = !differ[target][order.get(k)] ? k : row[l];
                }
                if (row[l] < 0 && differ[target][n]) {
                    row[l] = order.size();
                    order.add(target);
                }
            }
            sets.stateMoves.add(row);
            sets.stateAnswers.add(answers[order.get(i)]);
        }
    }

    private static boolean[][] markedPairs(int[][] moves, int[] answers) {
        int n = answers.length;
        boolean[][] differ = new boolean[n][n];
        boolean isNew = true;
        while (isNew) {
            isNew = false;
            for (int s = 0; s < n; s++) {
                for (int t = 0; t < n; t++) {
                    boolean isMarked = answers[s] != answers[t];
                    for (int l = 0; l < 8; l++) {
                        isMarked |= differ[moves[s][l]][moves[t][l]];
                    }
                    isNew |= isMarked && !differ[s][t];
                    differ[s][t] |= isMarked;
                }
            }
        }
        return differ;
    }

    private Sets machineOf(int mode) {
        if (mode < 0 || mode > 3) {
            throw new IndexOutOfBoundsException();
        }
        return machines[mode] == null ? new Sets() : machines[mode];
    }

    int states(int mode) {
        return machineOf(mode).stateMoves.size();
    }

    int next(int mode, int state, int letter) {
        Sets machine = machineOf(mode);
        if (state < 0 || state >= machine.stateMoves.size() || letter < 0 || letter > 7) {
            throw new IndexOutOfBoundsException();
        }
        return machine.stateMoves.get(state)[letter];
    }

    int answer(int mode, int state) {
        Sets machine = machineOf(mode);
        if (state < 0 || state >= machine.stateMoves.size()) {
            throw new IndexOutOfBoundsException();
        }
        return machine.stateAnswers.get(state);
    }

    boolean isMet(int rule) {
        Rule row = ruleAt(rule);
        return rule < builtRules && machineOf(row.mode).answers.contains(rule);
    }

    long words(int rule, int length) {
        Rule row = ruleAt(rule);
        if (length < 0 || length > 18) {
            throw new IllegalArgumentException();
        }
        if (rule >= builtRules) {
            return 0;
        }
        Sets machine = machineOf(row.mode);
        long[] ways = new long[machine.keys.size()];
        for (int s = 0; s < ways.length; s++) {
            ways[s] = machine.answers.get(s) == rule ? 1 : 0;
        }
        // From behind: how many words of a length lead from a set to the rule.
        for (int n = 0; n < length; n++) {
            long[] longer = new long[ways.length];
            for (int s = 0; s < ways.length; s++) {
                for (int move : machine.moves.get(s)) {
                    longer[s] += move < 0 ? 0 : ways[move];
                }
            }
            ways = longer;
        }
        return ways[0];
    }

    int shortest(int rule, int index) {
        Rule row = ruleAt(rule);
        if (index < 0 || index > 100) {
            throw new IndexOutOfBoundsException();
        }
        if (rule >= builtRules) {
            return -1;
        }
        Sets machine = machineOf(row.mode);
        String best = null;
        for (int s = 0; s < machine.words.size(); s++) {
            String word = machine.words.get(s);
            if (machine.answers.get(s) == rule && (best == null || word.length() < best.length()
                    || word.length() == best.length() && word.compareTo(best) < 0)) {
                best = word;
            }
        }
        return best == null || index >= best.length() ? -1 : best.charAt(index) - 'a';
    }

    // ---- scanning

    int scan() {
        if (!isBuilt) {
            throw new IllegalStateException();
        }
        String text = takeTape();
        tokens = new ArrayList<>();
        ends = new int[4];
        while (ends[1] < text.length()) {
            int best = -1;
            int end = ends[1];
            for (int r = 0; r < builtRules; r++) {
                if (rules.get(r).mode == ends[0]) {
                    int own = endsOf(rules.get(r), text, ends[1]).length() - 1;
                    best = own > end ? r : best;
                    end = Math.max(own, end);
                }
            }
            boolean isLeftOut = best >= 0 && rules.get(best).isLeftOut;
            if (!isLeftOut && tokens.size() == 500) {
                break;
            }
            int length = best < 0 ? 1 : tokenEnd(rules.get(best), text, end) - ends[1];
            if (isLeftOut) {
                ends[3]++;
            } else {
                tokens.add(new int[] {best, ends[1], length, ends[0]});
                ends[2] += best < 0 ? 1 : 0;
            }
            ends[1] += length;
            ends[0] = best < 0 ? ends[0] : rules.get(best).next;
        }
        return tokens.size();
    }

    private int tokenEnd(Rule rule, String text, int end) {
        BitSet tokenEnds = endsOf(rule.token, text, one(ends[1]));
        int longest = -1;
        for (int i = tokenEnds.nextSetBit(0); i >= 0 && i <= end; i = tokenEnds.nextSetBit(i + 1)) {
            if (rule.look == null ? i == end : endsOf(rule.look, text, one(i)).get(end)) {
                longest = i;
            }
        }
        return longest;
    }

    int token(int token, int what) {
        if (token < 0 || token >= tokens.size() || what < 0 || what > 3) {
            throw new IndexOutOfBoundsException();
        }
        return tokens.get(token)[what];
    }

    int scanned(int what) {
        if (what < 0 || what > 3) {
            throw new IndexOutOfBoundsException();
        }
        return ends[what];
    }

    double meanLength() {
        return tokens.stream().mapToInt(t -> t[2]).average().orElse(0);
    }
}
