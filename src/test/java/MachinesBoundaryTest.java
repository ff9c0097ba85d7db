/** A test for each sentence about machines that names a boundary case: promises 8 to 14. */
public final class MachinesBoundaryTest {
    private static final int MIN = Sentences.MIN;
    private static final int MAX = Sentences.MAX;
    private static final String ARGUMENT = "IllegalArgumentException";
    private static final String STATE = "IllegalStateException";
    private static final String INDEX = "IndexOutOfBoundsException";
    private static final String NINES = "(aaaaaaaaa)+";
    private static final String ELEVENS = "(aaaaaaaaaaa)+";
    // As many as are no multiple of nine, or of eleven.
    private static final String NOT_NINES = "(aaaaaaaaa)*aa?a?a?a?a?a?a?";
    private static final String NOT_ELEVENS = "(aaaaaaaaaaa)*aa?a?a?a?a?a?a?a?a?";
    // An a, then so many letters: the sets tell for each of the last ones whether it was an a.
    private static final String AMONG_SEVEN = "[ab]*a[ab][ab][ab][ab][ab][ab]";
    private static final String AMONG_SIX = "[ab]*a[ab][ab][ab][ab][ab]";
    private static final Sentences s = new Sentences("MachinesBoundaryTest");

    public static void main(String[] args) {
        alike();
        numbers();
        sets();
        build();
        states();
        next();
        answer();
        isMet();
        words();
        shortest();
        throwing();
        s.end(8, 14);
    }

    /** The machine of a mode: each state's answer, and the letters that lead on. */
    private static String machine(LexerForge x, int mode) {
        StringBuilder told = new StringBuilder();
        for (int state = 0; state < x.states(mode); state++) {
            told.append(state == 0 ? "" : " | ").append(x.answer(mode, state));
            for (int letter = 0; letter < 8; letter++) {
                int next = x.next(mode, state, letter);
                told.append(next < 0 ? "" : " " + (char) ('a' + letter) + next);
            }
        }
        return told.toString();
    }

    private static void makes(String due, String... patterns) {
        s.same("the machine of " + String.join(" and ", patterns), due, () -> machine(Check.built(patterns), 0));
    }

    // ---- promise 8: what a state is

    private static void alike() {
        s.sentence(8, "for each row of letters (also the empty one) that follows both the answers are the same", () -> {
            makes("-1 a1 b2 | 0 c3 | -1 c3 | 0", "ac?|bc");
            makes("-1 a1 b1 | 0 c2 | 0", "ac?|bc?");
            makes("-1 a1 c2 | -1 b3 | -1 b4 | 0 | 1", "ab", "cb");
            makes("-1 a1 c1 | -1 b2 | 0", "ab|cb", "cb");
            makes("-1 a1 b1 | 0 c1 d1", "(a|b)(c|d)*");
            makes("-1 a1 | -1 a2 | 0 a1", "(aa)+");
        });
        s.sentence(8, "which are made as small as they can be", () -> {
            makes("-1 a0 b1 | 0", "a*b");
            makes("-1 a0 b0 c1 | 0", "(a|b)*c");
            makes("-1 a1 | 0 a1", "a+a*|aa+|a");
            makes("-1 a1 b2 | -1 c2 | -1 c3 | -1 c4 | 0", "accc|bcc");
            LexerForge x = Check.built("a" + "c".repeat(14) + "|b" + "c".repeat(13));
            s.same("alike but for the fourteenth letter", 16, () -> x.states(0));
            s.same("a is not b", "1 2 2", () -> x.next(0, 0, 0) + " " + x.next(0, 0, 1) + " " + x.next(0, 1, 2));
        });
        s.sentence(8, "those from which no row of letters leads to a rule are no state", () -> {
            makes("-1 c1 | 0", "a[b-a]|c");
            makes("-1 a1 | 0", "a([b-a]|b[d-c])?");
            makes("", "[b-a]");
            makes("", "a/[b-a]");
            makes("-1 a1 | 0", "a", "a[b-a]");
            makes("-1 a1 | -1 b2 | 0", "ab", "a/b[b-a]");
        });
        s.sentence(8, "The answer to a word is the smallest rule of the mode by which it is met, -1 if there is none.",
            MachinesBoundaryTest::smallestRule);
        s.sentence(8, "by one with / if it can be cut in two, the first part matched by the token, "
            + "the second one by what must follow", () -> {
                makes("-1 a1 | -1 b2 | 0", "a/b");
                makes("-1 a1 | 0 b2 | 0", "a/b?");
                makes("-1 a1 | -1 a2 | 0 a2", "a+/a");
                makes("-1 a1 | -1 b2 c3 | 0 b3 c3 | 0", "ab?/b|c");
                makes("-1 a1 | 0 a1", "a+/a*");
            });
    }

    private static void smallestRule() {
        makes("-1 a1 | 0", "a", "a");
        makes("-1 a1 b2 | 0 | 1", "a", "a|b");
        makes("-1 a1 b1 | 0", "a|b", "a");
        makes("-1 a1 | 1 a2 | 0 a3 | 1 a3", "aa", "a+");
        LexerForge x = new LexerForge();
        Check.add(x, 1, 0, false, "a");
        Check.add(x, 0, 0, false, "a|b");
        Check.add(x, 1, 0, false, "a|b");
        x.build();
        s.same("mode 0", "-1 a1 b1 | 1", () -> machine(x, 0));
        s.same("mode 1", "-1 a1 b2 | 0 | 2", () -> machine(x, 1));
        LexerForge y = new LexerForge();
        for (int rule = 0; rule < 12; rule++) {
            Check.add(y, 2, 0, false, "[a-h]");
        }
        y.build();
        s.same("of twelve the smallest", 0, () -> y.answer(2, 1));
        LexerForge z = Check.built("ab", "b", "c", "d", "e", "f", "g", "h", "ba", "bb", "bc", "a");
        s.same("the rule 11", 11, () -> z.answer(0, z.next(0, 0, 0)));
        s.same("none", -1, () -> z.answer(0, 0));
    }

    private static void numbers() {
        s.sentence(8, "first that of the empty word (if it is one)", () -> {
            makes("-1 h1 | 0", "h");
            makes("", "[h-a]");
            makes("-1 a0 b0 c0 d0 e0 f0 g0 h1 | 0 a0 b0 c0 d0 e0 f0 g0 h1", ".*h");
            LexerForge x = new LexerForge();
            x.build();
            s.badIndex("no state", () -> x.answer(0, 0));
        });
        s.sentence(8, "letter by letter from a to h, those that are new", () -> {
            makes("-1 a1 b2 h3 | -1 c4 | -1 a5 | -1 b6 | 2 | 0 | 1", "ba", "hb", "ac");
            makes("-1 a1 h2 | -1 h3 | -1 a4 b3 | 0 | 1", "ah|hb", "ha");
            makes("-1 b1 | 0 a2 h3 | 1 | 0", "b|bh", "ba");
        });
        s.sentence(8, "state by state in ascending order", () -> {
            makes("-1 a1 b2 | -1 b3 | -1 a4 | -1 a5 | -1 a6 | 0 | 1", "aba", "baa");
            makes("-1 c1 d2 | -1 h3 | -1 a4 | 0 | 1", "ch", "da");
        });
    }

    // ---- promise 8: when a mode is too great

    private static LexerForge inMode(int mode, String... patterns) {
        LexerForge x = new LexerForge();
        for (String pattern : patterns) {
            s.same("addRule of " + pattern, 0, () -> Check.add(x, mode, 0, false, pattern));
        }
        return x;
    }

    private static void builds(int states, int mode, String... patterns) {
        LexerForge x = inMode(mode, patterns);
        String what = String.join(" and ", patterns) + " in mode " + mode;
        s.same("build of " + what, states, () -> x.build());
        s.same("states of " + what, states, () -> x.states(mode));
    }

    private static void isTooGreat(int mode, String... patterns) {
        LexerForge x = inMode(mode, patterns);
        String what = String.join(" and ", patterns) + " in mode " + mode;
        s.badState("build of " + what, () -> x.build());
        s.same("states of " + what, 0, () -> x.states(mode));
    }

    /** Rows of an own letter each and of a's, with as many places in all. */
    private static String[] rows(int places) {
        String[] rows = new String[4];
        for (int n = 0; n < 4; n++) {
            int own = n < 3 ? 30 : places - 90;
            rows[n] = (char) ('a' + n) + "a".repeat(own - 1);
        }
        return rows;
    }

    private static void sets() {
        s.sentence(8, "A mode is too great if more than 100 sets can be come to", () -> {
            for (int mode = 0; mode < 4; mode++) {
                builds(100, mode, rows(99));
                isTooGreat(mode, rows(100));
                builds(100, mode, NINES, ELEVENS);
                isTooGreat(mode, "(aaaa)+", "(" + "a".repeat(25) + ")+");
            }
            builds(99, 0, rows(98));
            isTooGreat(0, rows(101));
            isTooGreat(0, rows(120));
            builds(64, 0, AMONG_SIX);
            isTooGreat(0, AMONG_SEVEN);
        });
        s.sentence(8, "(The empty word has a set of its own, and counts, too;", () -> {
            // Ahead of the first letter behind the a's all is as it is with none of them: one state, but two sets.
            builds(99, 0, rowsBehind("a*", 98));
            isTooGreat(0, rowsBehind("a*", 99));
            builds(100, 0, rows(99));
            isTooGreat(0, rows(100));
        });
        s.sentence(8, "words with the same set count once", () -> {
            builds(2, 0, ".+");
            builds(31, 0, ".".repeat(30));
            builds(2, 0, ".+", ".+", ".+", ".+", ".+", ".+", ".+", ".+", ".+", ".+", ".+", ".+");
            builds(100, 0, NINES, ELEVENS, "a+");
        });
        s.sentence(8, "and those with no places are not counted", () -> {
            String[] rows = rows(99);
            builds(100, 0, rows[0], rows[1], rows[2], rows[3], "h[b-a]");
            builds(100, 0, NINES, ELEVENS, "b[b-a]c");
        });
        s.sentence(8, "when the word is the beginning of a word that is met", () -> {
            builds(0, 0, AMONG_SEVEN + "[b-a]");
            builds(0, 0, AMONG_SEVEN + "/[b-a]");
            builds(2, 0, AMONG_SEVEN + "[b-a]|c");
            builds(2, 0, AMONG_SEVEN + "[b-a]", "[ab]+");
            builds(5, 0, "aa|" + AMONG_SEVEN + "[b-a]", "ca");
        });
        s.sentence(8, "has the places of all rules of the mode that can be the ones that match its last letter",
            MachinesBoundaryTest::rulesOfAMode);
    }

    private static String[] rowsBehind(String head, int sets) {
        String[] rows = new String[4];
        for (int n = 0; n < 4; n++) {
            int own = n < 3 ? 29 : sets - 87;
            rows[n] = head + (char) ('b' + n) + "b".repeat(own - 1);
        }
        return rows;
    }

    /** Sets of two rules of one mode belong together, but not those of two modes. */
    private static void rulesOfAMode() {
        isTooGreat(0, "(" + "a".repeat(10) + ")+", ELEVENS);
        LexerForge x = new LexerForge();
        Check.add(x, 0, 0, false, "(" + "a".repeat(10) + ")+");
        Check.add(x, 1, 0, false, ELEVENS);
        s.same("in two modes", 11 + 12, () -> x.build());
        LexerForge y = new LexerForge();
        for (int mode = 0; mode < 4; mode++) {
            Check.add(y, mode, 0, false, NINES);
            Check.add(y, mode, 0, false, ELEVENS);
        }
        s.same("four great modes", 400, () -> y.build());
    }

    // ---- promise 8: build

    private static void build() {
        s.sentence(8, "Makes the machines of all modes anew.", () -> {
            LexerForge x = new LexerForge();
            for (int mode = 0; mode < 4; mode++) {
                Check.add(x, mode, 0, false, "a");
            }
            s.same("the first build", 8, () -> x.build());
            s.same("again", 8, () -> x.build());
            Check.add(x, 1, 0, false, "bc");
            s.same("with one more rule", 10, () -> x.build());
            s.same("its mode", "-1 a1 b2 | 1 | -1 c3 | 4", () -> machine(x, 1));
            smallAgain();
        });
        s.sentence(8, "Machines are made by build(), from all rules that there are then.",
            MachinesBoundaryTest::allRules);
        s.sentence(8, "Returns the number of all their states.", () -> {
            LexerForge x = new LexerForge();
            s.same("without rules", 0, () -> x.build());
            Check.add(x, 2, 0, false, "[b-a]");
            s.same("with a rule that can't be met", 0, () -> x.build());
            Check.add(x, 3, 0, false, "a");
            s.same("with another one", 2, () -> x.build());
            Check.add(x, 0, 0, false, "ab");
            s.same("with another mode", 5, () -> x.build());
        });
        s.sentence(8, "if a mode is too great", MachinesBoundaryTest::tooGreat);
    }

    /** What was found for another mode, or by the build before, must not keep apart what is alike. */
    private static void smallAgain() {
        LexerForge x = new LexerForge();
        Check.add(x, 0, 0, false, "abcdefgh");
        Check.add(x, 1, 0, false, "(a|b|c)(d|e|f)(g|h)");
        Check.add(x, 3, 0, false, "(a|b|c|d|e)+");
        s.same("states of three modes", 9 + 4 + 2, () -> x.build());
        s.same("the second mode", "-1 a1 b1 c1 | -1 d2 e2 f2 | -1 g3 h3 | 1",
            () -> machine(x, 1));
        Check.add(x, 3, 0, false, "(a|b|c|d|e)(a|b|c|d|e)*");
        Check.add(x, 2, 0, false, "abab|baab|bbab|aaab");
        s.same("states of four modes", 9 + 4 + 5 + 2, () -> x.build());
        s.same("the third mode", "-1 a1 b1 | -1 a2 b2 | -1 a3 | -1 b4 | 4", () -> machine(x, 2));
    }

    private static void allRules() {
        LexerForge x = new LexerForge();
        for (int n = 0; n < 12; n++) {
            Check.add(x, n & 3, 0, false, "a".repeat(n + 1));
        }
        x.build();
        for (int n = 0; n < 12; n++) {
            int rule = n;
            s.same("isMet of " + n, true, () -> x.isMet(rule));
        }
        LexerForge y = Check.built("a");
        Check.add(y, 0, 0, false, "b");
        s.same("a rule that was not there", "-1 a1 | 0", () -> machine(y, 0));
        y.build();
        s.same("a rule that is there", "-1 a1 b2 | 0 | 1", () -> machine(y, 0));
    }

    private static void tooGreat() {
        for (int mode = 0; mode < 4; mode++) {
            int great = mode;
            LexerForge x = new LexerForge();
            for (int other = 0; other < 4; other++) {
                Check.add(x, other, 0, false, "ab");
            }
            x.build();
            Check.add(x, great, 0, false, AMONG_SEVEN);
            Check.add(x, 3 - great, 0, false, "c");
            for (int n = 0; n < 2; n++) {
                s.badState("mode " + mode, () -> x.build());
                s.same("states of the mode " + mode, 3, () -> x.states(great));
                s.same("states of another than " + mode, 3, () -> x.states(3 - great));
                s.same("isMet, mode " + mode, "true false false",
                    () -> x.isMet(great) + " " + x.isMet(4) + " " + x.isMet(5));
            }
        }
        LexerForge y = new LexerForge();
        Check.add(y, 0, 0, false, "a");
        Check.add(y, 3, 0, false, AMONG_SEVEN);
        s.badState("a first build", () -> y.build());
        s.same("no states behind it", 0, () -> y.states(0));
        s.same("nothing is met behind it", false, () -> y.isMet(0));
        s.badState("no scan behind it", () -> y.scan());
    }

    // ---- promises 9 to 11

    private static void states() {
        s.sentence(9, "Returns the number of states of its machine; 0 ahead of the first build().", () -> {
            LexerForge x = new LexerForge();
            Check.add(x, 0, 0, false, "a");
            Check.add(x, 3, 0, false, "ab");
            for (int n = 0; n < 4; n++) {
                int mode = n;
                s.same("ahead, mode " + n, 0, () -> x.states(mode));
            }
            x.build();
            int[] due = {2, 0, 0, 3};
            for (int n = 0; n < 4; n++) {
                int mode = n;
                s.same("mode " + n, due[n], () -> x.states(mode));
            }
        });
        s.sentence(9, "if mode is not 0 to 3", () -> {
            for (LexerForge x : new LexerForge[] {new LexerForge(), Sentences.busy()}) {
                for (int bad : new int[] {-1, 4, MIN, MAX}) {
                    s.badIndex("mode " + bad, () -> x.states(bad));
                }
            }
        });
    }

    private static void next() {
        s.sentence(10, "Returns the state to which the letter leads; -1 if it leads to none.", () -> {
            makes("-1 a1 h2 | 0 a1 | -1 h3 | 0", "a+|hh", "b[b-a]");
            LexerForge x = Check.built("a+", "b[b-a]");
            s.same("to itself", 1, () -> x.next(0, 1, 0));
            s.same("to none", -1, () -> x.next(0, 1, 1));
            s.same("to none, by words that can't be met", -1, () -> x.next(0, 0, 1));
        });
        s.sentence(10, "0 to 7 for a to h", () -> {
            LexerForge x = Check.built("a", "b", "c", "d", "e", "f", "g", "h");
            for (int n = 0; n < 8; n++) {
                int letter = n;
                s.same("the answer behind the letter " + n, n, () -> x.answer(0, x.next(0, 0, letter)));
            }
        });
        s.sentence(10, "if mode is not 0 to 3, there is no such state, or letter is not 0 to 7", () -> {
            LexerForge x = Check.built("ab");
            for (int bad : new int[] {-1, 4, MIN, MAX}) {
                s.badIndex("mode " + bad, () -> x.next(bad, 0, 0));
            }
            for (int bad : new int[] {-1, 3, 99, 100, MIN, MAX}) {
                s.badIndex("state " + bad, () -> x.next(0, bad, 0));
            }
            for (int bad : new int[] {-1, 8, MIN, MAX}) {
                s.badIndex("letter " + bad, () -> x.next(0, 0, bad));
            }
            s.badIndex("a mode without states", () -> x.next(1, 0, 0));
            s.same("the last state and letter", -1, () -> x.next(0, 2, 7));
            LexerForge y = inMode(3, rows(99));
            s.badIndex("ahead of build", () -> y.next(3, 0, 0));
            y.build();
            s.same("the state 99", -1, () -> y.next(3, 99, 0));
            s.badIndex("the state 100", () -> y.next(3, 100, 0));
        });
    }

    private static void answer() {
        s.sentence(11, "Returns the answer to the words of this state.", () -> {
            LexerForge x = Check.built("ab", "a", "ab|abc");
            int[] due = {-1, 1, 0, 2};
            for (int n = 0; n < due.length; n++) {
                int state = n;
                s.same("state " + n, due[n], () -> x.answer(0, state));
            }
        });
        s.sentence(11, "if mode is not 0 to 3, or there is no such state", () -> {
            LexerForge x = Check.built("ab");
            for (int bad : new int[] {-1, 4, MIN, MAX}) {
                s.badIndex("mode " + bad, () -> x.answer(bad, 0));
            }
            for (int bad : new int[] {-1, 3, 99, 100, MIN, MAX}) {
                s.badIndex("state " + bad, () -> x.answer(0, bad));
            }
            s.badIndex("a mode without states", () -> x.answer(1, 0));
            s.same("the last state", 0, () -> x.answer(0, 2));
            LexerForge y = inMode(3, rows(99));
            s.badIndex("ahead of build", () -> y.answer(3, 0));
            y.build();
            s.same("the state 99", 2, () -> y.answer(3, 99));
            s.badIndex("the state 100", () -> y.answer(3, 100));
        });
    }

    // ---- promises 12 and 13

    private static void isMet() {
        s.sentence(12, "whether it is the answer to some word, by the machine of its mode", () -> {
            LexerForge x = new LexerForge();
            Check.add(x, 0, 0, false, "a|b");
            Check.add(x, 0, 0, false, "b");
            Check.add(x, 1, 0, false, "b");
            Check.add(x, 0, 0, false, "bb*");
            Check.add(x, 0, 0, false, "a/[b-a]");
            Check.add(x, 0, 0, false, "[a-b]");
            x.build();
            boolean[] due = {true, false, true, true, false, false};
            for (int n = 0; n < due.length; n++) {
                int rule = n;
                s.same("rule " + n, due[n], () -> x.isMet(rule));
            }
        });
        s.sentence(12, "(false, if it came behind the latest build())", () -> {
            LexerForge x = new LexerForge();
            Check.add(x, 0, 0, false, "a");
            s.same("ahead of the first build", false, () -> x.isMet(0));
            x.build();
            s.same("the last one that was there", true, () -> x.isMet(0));
            Check.add(x, 0, 0, false, "b");
            s.same("behind build", false, () -> x.isMet(1));
            x.build();
            s.same("behind a new build", true, () -> x.isMet(1));
        });
        s.sentence(12, "if there is no such rule", () -> noSuchRule((x, rule) -> x.isMet(rule), "false"));
    }

    /** Asks for rules of a maker without any, with four (the last of which came behind build), and with twelve. */
    private static void noSuchRule(Asked asked, String last) {
        LexerForge none = new LexerForge();
        LexerForge four = Sentences.busy();
        LexerForge twelve = new LexerForge();
        for (int n = 0; n < 12; n++) {
            Check.add(twelve, 0, 0, false, "a");
        }
        for (int bad : new int[] {-1, 12, 13, MIN, MAX}) {
            s.badIndex("without rules: " + bad, () -> asked.of(none, bad));
            s.badIndex("of four: " + bad, () -> asked.of(four, bad));
            s.badIndex("of twelve: " + bad, () -> asked.of(twelve, bad));
        }
        s.badIndex("without rules: 0", () -> asked.of(none, 0));
        s.badIndex("of four: 4", () -> asked.of(four, 4));
        s.same("of four: 3", last, () -> asked.of(four, 3));
        s.same("of twelve: 11", last, () -> asked.of(twelve, 11));
    }

    private interface Asked {
        Object of(LexerForge x, int rule);
    }

    private static void words() {
        s.sentence(13, "Tells how many words of a length have a rule as their answer.", () -> {
            s.matches(".+", 0, 8, 64);
            LexerForge x = Check.built("aa", ".+", "a|b");
            s.same("none of length 0", 0L, () -> x.words(1, 0));
            s.same("all but one of length 2", 63L, () -> x.words(1, 2));
            s.same("one of length 2", 1L, () -> x.words(0, 2));
            s.same("none of a rule that is never met", 0L, () -> x.words(2, 1));
            s.same("of length 17", 1L << 51, () -> x.words(1, 17));
            s.same("of length 18", 1L << 54, () -> x.words(1, 18));
            LexerForge y = Check.built("a".repeat(18), "b".repeat(19));
            s.same("the only one of length 18", 1L, () -> y.words(0, 18));
            s.same("none of length 17", 0L, () -> y.words(0, 17));
            s.same("none of length 18", 0L, () -> y.words(1, 18));
            LexerForge z = new LexerForge();
            Check.add(z, 0, 0, false, "a");
            Check.add(z, 2, 0, false, "a|b/c?");
            z.build();
            s.same("by the machine of its mode", 2L, () -> z.words(1, 1));
            s.same("with /", 2L, () -> z.words(1, 2));
        });
        s.sentence(13, "0, if it came behind the latest build().", () -> {
            LexerForge x = new LexerForge();
            Check.add(x, 0, 0, false, "a");
            s.same("ahead of the first build", 0L, () -> x.words(0, 1));
            x.build();
            Check.add(x, 0, 0, false, "a|b");
            s.same("the last one that was there", 1L, () -> x.words(0, 1));
            s.same("behind build", 0L, () -> x.words(1, 1));
            x.build();
            s.same("behind a new build", 1L, () -> x.words(1, 1));
        });
        s.sentence(13, "if there is no such rule", () -> noSuchRule((x, rule) -> x.words(rule, 2), "0"));
        s.sentence(13, "if length is not 0 to 18", () -> {
            LexerForge x = Sentences.busy();
            for (int bad : new int[] {-1, 19, 100, MIN, MAX}) {
                s.badArgument("length " + bad, () -> x.words(0, bad));
                s.badArgument("length behind build " + bad, () -> x.words(3, bad));
            }
            s.same("length 0", 0L, () -> x.words(0, 0));
            s.same("length 18", 1L, () -> x.words(0, 18));
        });
        s.sentence(13, "If several exceptions apply, the one that is named first is thrown.", () -> {
            LexerForge x = Sentences.busy();
            for (int bad : new int[] {-1, 4, MIN, MAX}) {
                s.badIndex("rule and length -1, " + bad, () -> x.words(bad, -1));
                s.badIndex("rule and length 19, " + bad, () -> x.words(bad, 19));
            }
            s.badArgument("length alone", () -> x.words(0, 19));
        });
    }

    // ---- promise 14

    private static void spells(LexerForge x, int rule, String due) {
        s.same("the shortest word of " + rule, due, () -> {
            StringBuilder word = new StringBuilder();
            for (int index = 0; index <= 100; index++) {
                int letter = x.shortest(rule, index);
                word.append(letter < 0 ? "" : String.valueOf((char) ('a' + letter)));
            }
            return word;
        });
    }

    private static void shortest() {
        s.sentence(14, "Tells the shortest word that has a rule as its answer", () -> {
            spells(Check.built("aaaa|hb|b*hg"), 0, "hb");
            LexerForge x = Check.built("a|b|c", "a+|bb", "b/c*d", "[a-c].?");
            spells(x, 0, "a");
            spells(x, 1, "aa");
            spells(x, 2, "bd");
            spells(x, 3, "ab");
            LexerForge y = Check.built(NOT_NINES, NOT_ELEVENS, "a+");
            spells(y, 0, "a");
            spells(y, 1, "a".repeat(9));
            spells(y, 2, "a".repeat(99));
        });
        s.sentence(14, "of several the first one in the order of the alphabet", () -> {
            spells(Check.built("hb|bh|.ac"), 0, "bh");
            spells(Check.built("h|b|g"), 0, "b");
            spells(Check.built("ba|ah"), 0, "ah");
            spells(Check.built("hgf|hfg|hfh"), 0, "hfg");
            spells(Check.built("..h"), 0, "aah");
            spells(Check.built("a.", "[ab][bc]"), 1, "bb");
            spells(Check.built("bb|ccc|cb|ab[b-a]"), 0, "bb");
        });
        s.sentence(14, "-1 behind the end of the word, or if there is no such word "
            + "(also if the rule came behind the latest build())", MachinesBoundaryTest::noLetter);
        s.sentence(14, "if there is no such rule, or index is not 0 to 100", () -> {
            noSuchRule((x, rule) -> x.shortest(rule, 0), "-1");
            LexerForge x = Sentences.busy();
            for (int bad : new int[] {-1, 101, 1000, MIN, MAX}) {
                s.badIndex("index " + bad, () -> x.shortest(0, bad));
                s.badIndex("index behind build " + bad, () -> x.shortest(3, bad));
            }
            s.same("index 0", 0, () -> x.shortest(0, 0));
            s.same("index 100", -1, () -> x.shortest(0, 100));
        });
    }

    private static void noLetter() {
        LexerForge x = Check.built("ab", "h", "b[b-a]", "h|ab");
        s.same("the last letter", 1, () -> x.shortest(0, 1));
        s.same("behind it", -1, () -> x.shortest(0, 2));
        s.same("the only letter", 7, () -> x.shortest(1, 0));
        s.same("behind the only one", -1, () -> x.shortest(1, 1));
        s.same("of a rule that can't be met", -1, () -> x.shortest(2, 0));
        s.same("of a rule that is never the smallest", -1, () -> x.shortest(3, 0));
        Check.add(x, 0, 0, false, "c");
        s.same("of a rule behind build", -1, () -> x.shortest(4, 0));
        x.build();
        s.same("of a rule behind a new build", 2, () -> x.shortest(4, 0));
        LexerForge y = new LexerForge();
        Check.add(y, 0, 0, false, "a");
        s.same("ahead of the first build", -1, () -> y.shortest(0, 0));
        LexerForge z = Check.built(NOT_NINES, NOT_ELEVENS, "a+");
        s.same("the letter 98", 0, () -> z.shortest(2, 98));
        s.same("the letter 99", -1, () -> z.shortest(2, 99));
        s.same("the letter 100", -1, () -> z.shortest(2, 100));
    }

    // ---- what holds for each method that throws

    private static void throwing() {
        String nothing = "A method that throws an exception changes nothing.";
        s.sentence(8, nothing, () -> {
            for (int mode = 0; mode < 4; mode++) {
                LexerForge x = Sentences.busy();
                x.trim(0);
                Check.add(x, mode, 0, false, AMONG_SEVEN);
                Check.put(x, "aabi");
                s.throwsAndKeepsAll("build with mode " + mode, STATE, x, o -> o.build());
                s.throwsAndKeepsAll("build again with mode " + mode, STATE, x, o -> o.build());
                s.cuts(x, "", "0,0,2,0 -1,3,1,0 end 0,4,1,1");
            }
        });
        s.sentence(9, nothing, () -> s.throwsAndChangesNothing("no such mode", INDEX, o -> o.states(4)));
        s.sentence(10, nothing, () -> {
            s.throwsAndChangesNothing("no such mode", INDEX, o -> o.next(4, 0, 0));
            s.throwsAndChangesNothing("no such state", INDEX, o -> o.next(0, 3, 0));
            s.throwsAndChangesNothing("no such letter", INDEX, o -> o.next(0, 0, 8));
        });
        s.sentence(11, nothing, () -> {
            s.throwsAndChangesNothing("no such mode", INDEX, o -> o.answer(4, 0));
            s.throwsAndChangesNothing("no such state", INDEX, o -> o.answer(0, 3));
        });
        s.sentence(12, nothing, () -> s.throwsAndChangesNothing("no such rule", INDEX, o -> o.isMet(4)));
        s.sentence(13, nothing, () -> {
            s.throwsAndChangesNothing("no such rule", INDEX, o -> o.words(4, 0));
            s.throwsAndChangesNothing("no such length", ARGUMENT, o -> o.words(0, 19));
        });
        s.sentence(14, nothing, () -> {
            s.throwsAndChangesNothing("no such rule", INDEX, o -> o.shortest(4, 0));
            s.throwsAndChangesNothing("no such index", INDEX, o -> o.shortest(0, 101));
        });
    }
}
