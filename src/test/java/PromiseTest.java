/** Each promise of the document by itself: ordinary inputs, the edges that it names, and wrong inputs. */
public final class PromiseTest {
    private static final Check check = new Check("PromiseTest");
    private static final int MIN = Integer.MIN_VALUE;
    private static final int MAX = Integer.MAX_VALUE;

    public static void main(String[] args) {
        newObject();
        feed();
        trim();
        addRule();
        patternErrors();
        patternLimits();
        patternMeanings();
        ruleBehindErrors();
        errorAt();
        rule();
        count();
        build();
        buildTooGreat();
        states();
        next();
        answer();
        isMet();
        words();
        shortest();
        scan();
        scanWithLook();
        scanLimit();
        token();
        scanned();
        meanLength();
        digest();
        check.end();
    }

    // ---- promise 1

    private static void newObject() {
        LexerForge x = new LexerForge();
        for (int what = 0; what < 3; what++) {
            int w = what;
            check.same("new: count " + w, 0, () -> x.count(w));
        }
        for (int mode = 0; mode < 4; mode++) {
            int m = mode;
            check.same("new: states " + m, 0, () -> x.states(m));
            check.badIndex("new: next " + m, () -> x.next(m, 0, 0));
            check.badIndex("new: answer " + m, () -> x.answer(m, 0));
            check.same("new: scanned " + m, 0, () -> x.scanned(m));
        }
        check.same("new: errorAt", -1, () -> x.errorAt());
        check.same("new: meanLength", 0.0, () -> x.meanLength());
        check.badIndex("new: rule", () -> x.rule(0, 0));
        check.badIndex("new: token", () -> x.token(0, 0));
        check.badState("new: scan", () -> x.scan());
    }

    // ---- promise 2

    private static void feed() {
        LexerForge x = new LexerForge();
        check.same("feed once", 20, () -> x.feed(0x61626364, 0x65666768, 0x78797a61, 0x62636465, 0x66676861));
        check.same("feed twice", 40, () -> x.feed(0, -1, MIN, MAX, 7));
        LexerForge y = Check.built("a", "b", "c", "d", "e", "f", "g", "h");
        y.feed(0x61626364, 0x65666768, 0x78ff6180, 0xe1626364, 0x65666768);
        check.same("feed: tokens", 20, () -> y.scan());
        String due = "0 1 2 3 4 5 6 7 -1 -1 0 -1 -1 1 2 3 4 5 6 7 ";
        StringBuilder got = new StringBuilder();
        for (int t = 0; t < 20; t++) {
            got.append(y.token(t, 0)).append(' ');
        }
        check.same("feed: the highest byte first", due, () -> got);
        LexerForge z = new LexerForge();
        for (int n = 1; n <= 50; n++) {
            int size = 20 * n;
            check.same("feed " + n, size, () -> z.feed(0, 0, 0, 0, 0));
        }
        check.badState("feed past 1000", () -> z.feed(0, 0, 0, 0, 0));
        check.same("feed past 1000 changes nothing", 1000, () -> z.count(1));
        z.trim(981);
        check.badState("feed to 1001", () -> z.feed(0, 0, 0, 0, 0));
        check.same("feed to 1001 changes nothing", 981, () -> z.count(1));
        z.trim(980);
        check.same("feed to 1000", 1000, () -> z.feed(0, 0, 0, 0, 0));
    }

    // ---- promise 3

    private static void trim() {
        LexerForge x = new LexerForge();
        check.same("trim an empty tape", 0, () -> x.trim(0));
        check.badArgument("trim to more", () -> x.trim(1));
        Check.put(x, "abcdefgh");
        check.badArgument("trim to -1", () -> x.trim(-1));
        check.badArgument("trim to 9", () -> x.trim(9));
        check.badArgument("trim to the least", () -> x.trim(MIN));
        check.badArgument("trim to the greatest", () -> x.trim(MAX));
        check.same("trim that throws changes nothing", 8, () -> x.count(1));
        check.same("trim to all", 8, () -> x.trim(8));
        check.same("trim to 3", 3, () -> x.trim(3));
        check.same("trim: count", 3, () -> x.count(1));
        Check.put(x, "d+");
        x.addRule(0, 0, false);
        x.build();
        check.same("trim keeps the first bytes", 1L, () -> x.words(0, 5));
        check.same("trim keeps the first bytes: the letter behind them", 3, () -> x.shortest(0, 3));
    }

    // ---- promise 4

    private static void addRule() {
        LexerForge x = new LexerForge();
        check.same("addRule", 0, () -> Check.add(x, 1, 2, true, "ab"));
        check.same("addRule empties the tape", 0, () -> x.count(1));
        check.same("addRule with error 1", 1, () -> Check.add(x, 0, 0, false, "a)"));
        check.same("addRule with an error empties the tape", 0, () -> x.count(1));
        check.same("addRule with error 2", 2, () -> Check.add(x, 0, 0, false, "a*"));
        check.same("addRule with an error adds nothing", 1, () -> x.count(0));
        check.same("addRule with an empty tape", 1, () -> x.addRule(0, 0, false));
        Check.put(x, "c");
        for (int bad : new int[] {-1, 4, MIN, MAX}) {
            check.badArgument("addRule mode " + bad, () -> x.addRule(bad, 0, false));
            check.badArgument("addRule next " + bad, () -> x.addRule(0, bad, true));
        }
        check.same("addRule that throws keeps the tape", 1, () -> x.count(1));
        check.same("addRule that throws keeps the error", 0, () -> x.errorAt());
        check.same("addRule that throws adds nothing", 1, () -> x.count(0));
        x.build();
        x.trim(0);
        int before = x.states(0);
        check.same("addRule behind build", 0, () -> Check.add(x, 0, 0, false, "abc"));
        check.same("addRule leaves the machines", before, () -> x.states(0));
        for (int n = 2; n < 12; n++) {
            check.same("addRule " + n, 0, () -> Check.add(x, 3, 3, false, "h"));
        }
        Check.put(x, "a)");
        check.badState("the 13th rule", () -> x.addRule(0, 0, false));
        check.badArgument("the 13th rule with a bad mode", () -> x.addRule(4, 0, false));
        check.badArgument("the 13th rule with a bad next", () -> x.addRule(0, -1, false));
        check.same("the 13th rule: the tape", 2, () -> x.count(1));
        check.same("the 13th rule: the rules", 12, () -> x.count(0));
        check.same("the 13th rule: the error", -1, () -> x.errorAt());
    }

    private static void fails(String pattern, int error, int at) {
        LexerForge x = new LexerForge();
        check.same("the error of " + pattern, error, () -> Check.add(x, 0, 0, false, pattern));
        check.same("the place of the error of " + pattern, at, () -> x.errorAt());
        check.same("the rules behind " + pattern, 0, () -> x.count(0));
    }

    private static void stands(String pattern) {
        LexerForge x = new LexerForge();
        check.same("the error of " + pattern, 0, () -> Check.add(x, 0, 0, false, pattern));
        check.same("the place of no error of " + pattern, -1, () -> x.errorAt());
        check.same("the rules behind " + pattern, 1, () -> x.count(0));
    }

    private static void patternErrors() {
        for (String good : new String[] {"a", "h", ".", "[a]", "[a-h]", "[h-a]", "[abc-fh]", "(a)", "a*b", "a+", "a?b",
                "a|b", "a/b", "a/b*", "a/b|c", "a|b/c|d", "(a|b)+c?/.(d)", "((((((a))))))", "[a-ba-c]", "a/[b-a]"}) {
            stands(good);
        }
        String[] bad = {"", "i", "A", "`", "*a", "+", "?", "|a", "/a", ")", "]", "-", "()", "(*", "(|", "(/"};
        int[] places = {0, 0, 0, 0, 0, 0, 0, 0, 0, 0, 0, 0, 1, 1, 1, 1};
        for (int i = 0; i < bad.length; i++) {
            fails(bad[i], 1, places[i]);
        }
        fails("a**", 1, 2);
        fails("a+?", 1, 2);
        fails("a?+b", 1, 2);
        fails("a|", 1, 2);
        fails("a||b", 1, 2);
        fails("a|*", 1, 2);
        fails("a/", 1, 2);
        fails("a//b", 1, 2);
        fails("a/b/c", 1, 3);
        fails("a/|b", 1, 2);
        fails("(a/b)", 1, 2);
        fails("(a", 1, 2);
        fails("(a|", 1, 3);
        fails("(a]", 1, 2);
        fails("a)", 1, 1);
        fails("(a))", 1, 3);
        fails("a]", 1, 1);
        fails("a-b", 1, 1);
        fails("[]", 1, 1);
        fails("[", 1, 1);
        fails("[a", 1, 2);
        fails("[a-", 1, 3);
        fails("[a-]", 1, 3);
        fails("[-a]", 1, 1);
        fails("[a-b-c]", 1, 4);
        fails("[a-c", 1, 4);
        fails("[i]", 1, 1);
        fails("[a.]", 1, 2);
        fails("[a[b]]", 1, 2);
        fails("ab c", 1, 2);
        fails("abi", 1, 2);
        fails("a\u0000", 1, 1);
        fails("a\u00e1", 1, 1);
        fails("a*", 2, 0);
        fails("a?", 2, 0);
        fails("a*b?", 2, 0);
        fails("a|b*", 2, 0);
        fails("(a*)+", 2, 0);
        fails("(a?|b)/c", 2, 0);
        fails("[b-a]*", 2, 0);
        fails("a*/", 1, 3);
        fails("a?)", 1, 2);
    }

    private static void patternLimits() {
        stands("a".repeat(30));
        fails("a".repeat(31), 1, 30);
        fails("a".repeat(30) + "i", 1, 30);
        fails("a".repeat(30) + "[", 1, 30);
        fails("a".repeat(30) + ".", 1, 30);
        stands("a".repeat(30) + "+");
        stands("a".repeat(29) + "[abcdefgh]");
        fails("a".repeat(29) + "[abcdefghi]", 1, 38);
        fails("a".repeat(30) + "(a)", 1, 31);
        fails("a".repeat(15) + "/" + "b".repeat(16), 1, 31);
        stands("a".repeat(15) + "/" + "b".repeat(15));
        stands("[" + "a".repeat(38) + "]");
        fails("[" + "a".repeat(39) + "]", 1, 40);
        fails("[" + "a".repeat(38) + "]b", 1, 40);
        fails("[" + "a".repeat(38) + "]i", 1, 40);
        fails("[" + "a".repeat(39), 1, 40);
        fails("[" + "a".repeat(60), 1, 40);
        fails("[" + "a".repeat(38) + "]" + "b".repeat(960), 1, 40);
        fails("[" + "a".repeat(35) + "]a*bc", 1, 40);
        fails("[" + "a".repeat(35) + "]*a*", 2, 0);
        fails("[" + "a".repeat(35) + "]*a*b", 1, 40);
        fails("(((((((a", 1, 6);
        fails("(((((((", 1, 6);
        fails("((((((a", 1, 7);
        fails("((((((", 1, 6);
        stands("((((((a))))))((((((b))))))");
        stands("a/((((((a))))))");
        fails("a/(((((((a", 1, 8);
        fails("((((((a)(b)(", 1, 12);
        fails("((((((a)))))((", 1, 14);
        fails("((((((a)))))((((((b", 1, 17);
    }

    /** What the signs of a pattern match, told by how many words of the lengths 1 to 4 it is the answer to. */
    private static void matches(String pattern, long... due) {
        LexerForge x = Check.built(pattern);
        for (int n = 0; n < due.length; n++) {
            int length = n + 1;
            check.same("words of " + pattern + " of length " + length, due[n], () -> x.words(0, length));
        }
    }

    private static void patternMeanings() {
        matches("c", 1, 0, 0, 0);
        matches(".", 8, 0, 0, 0);
        matches("[b-d]", 3, 0, 0, 0);
        matches("[bd]", 2, 0, 0, 0);
        matches("[d-b]", 0, 0, 0, 0);
        matches("[d-bh]", 1, 0, 0, 0);
        matches("[c-c]", 1, 0, 0, 0);
        matches("[a-ca-bb-d]", 4, 0, 0, 0);
        matches("ab*", 1, 1, 1, 1);
        matches("ab+", 0, 1, 1, 1);
        matches("ab?", 1, 1, 0, 0);
        matches("(ab)+", 0, 1, 0, 1);
        matches("(a|bc)+", 1, 2, 3, 5);
        matches("ab|c", 1, 1, 0, 0);
        matches("a(b|c)d", 0, 0, 2, 0);
        matches("a[b-a]?", 1, 0, 0, 0);
        matches("a/b", 0, 1, 0, 0);
        matches("a/b*", 1, 1, 1, 1);
        matches("a|b/c|d", 0, 4, 0, 0);
        matches("a+/a", 0, 1, 1, 1);
        matches("(a?b?)+c", 1, 2, 4, 8);
    }

    /** What an erroneous pattern left behind must not show in the rule that comes next. */
    private static void ruleBehindErrors() {
        LexerForge x = new LexerForge();
        for (String bad : new String[] {"a?/b", "(.+.+/.)", "[a-h]+/h*.|", "a/b?/", ".+.?|(.*", "....*)"}) {
            check.same("the error of " + bad, true, () -> Check.add(x, 3, 2, true, bad) > 0);
        }
        check.same("a rule behind errors", 0, () -> Check.add(x, 0, 1, false, "ab"));
        x.build();
        int[] due = {0, 1, 0, 0, 2, 1};
        for (int what = 0; what < 6; what++) {
            int w = what;
            check.same("rule behind errors " + w, due[w], () -> x.rule(0, w));
        }
        check.same("states behind errors", 3, () -> x.states(0));
        check.same("words behind errors", 1L, () -> x.words(0, 2));
        cuts(x, "abb", 2, "0,0,2,0 -1,2,1,1", "1,3,1,0");
    }

    // ---- promise 5

    private static void errorAt() {
        LexerForge x = new LexerForge();
        check.same("errorAt ahead", -1, () -> x.errorAt());
        Check.add(x, 0, 0, false, "abc)");
        check.same("errorAt", 3, () -> x.errorAt());
        Check.put(x, "ab");
        x.build();
        x.scan();
        check.same("errorAt stays", 3, () -> x.errorAt());
        Check.add(x, 0, 0, false, "b*");
        check.same("errorAt of error 2", 0, () -> x.errorAt());
        Check.add(x, 0, 0, false, "b");
        check.same("errorAt behind a good rule", -1, () -> x.errorAt());
    }

    // ---- promise 6

    private static void rule() {
        LexerForge x = new LexerForge();
        Check.add(x, 3, 1, true, "a[b-a]|c/d?");
        Check.add(x, 0, 2, false, "(a|ab|[ce-a].)*[h]");
        int[][] due = {{3, 1, 1, 1, 4, 1}, {0, 2, 0, 0, 6, 4}};
        for (int r = 0; r < 2; r++) {
            for (int what = 0; what < 6; what++) {
                int rule = r;
                int w = what;
                check.same("rule " + r + " " + w, due[r][w], () -> x.rule(rule, w));
            }
        }
        for (int bad : new int[] {-1, 2, 12, MIN, MAX}) {
            check.badIndex("rule of " + bad, () -> x.rule(bad, 0));
        }
        for (int bad : new int[] {-1, 6, MIN, MAX}) {
            check.badIndex("rule what " + bad, () -> x.rule(0, bad));
        }
        firstPlaces("abc", 3, 1);
        firstPlaces("a*b*c", 3, 3);
        firstPlaces("[b-a]*a", 2, 1);
        firstPlaces("a/[b-a]", 2, 0);
        firstPlaces("[b-a]", 1, 0);
        firstPlaces("a[b-a]*", 2, 1);
        firstPlaces("a([b-a]|b)|c([b-a])", 5, 1);
        firstPlaces("(a[b-a]|b)+", 3, 1);
        firstPlaces("a?[bc]./a", 4, 2);
        firstPlaces(".|.|[abca-b]", 3, 3);
    }

    private static void firstPlaces(String pattern, int places, int first) {
        LexerForge x = new LexerForge();
        Check.add(x, 0, 0, false, pattern);
        check.same("the places of " + pattern, places, () -> x.rule(0, 4));
        check.same("the first places of " + pattern, first, () -> x.rule(0, 5));
    }

    // ---- promise 7

    private static void count() {
        LexerForge x = Check.built("a", "b");
        Check.scan(x, "abc");
        Check.put(x, "abcdef");
        check.same("count rules", 2, () -> x.count(0));
        check.same("count bytes", 6, () -> x.count(1));
        check.same("count tokens", 3, () -> x.count(2));
        for (int bad : new int[] {-1, 3, MIN, MAX}) {
            check.badIndex("count " + bad, () -> x.count(bad));
        }
    }

    // ---- promise 8

    private static void build() {
        LexerForge x = new LexerForge();
        check.same("build of nothing", 0, () -> x.build());
        Check.add(x, 0, 0, false, "ab");
        Check.add(x, 2, 0, false, "a+");
        Check.put(x, "abc");
        check.same("build of two modes", 5, () -> x.build());
        check.same("build keeps the tape", 3, () -> x.count(1));
        check.same("build again", 5, () -> x.build());
        x.trim(0);
        Check.add(x, 0, 0, false, "ac");
        check.same("build with a third rule", 6, () -> x.build());
        check.same("a rule that can't be met", 0, () -> Check.built("[b-a]").states(0));
        check.same("no state behind what is dead", 2, () -> Check.built("a[b-a]|c").states(0));
        check.same("alike states are one", 2, () -> Check.built("(a|b)(c|d)*").states(0));
        check.same("the empty word's state can be another's, too", 2, () -> Check.built("a*b").states(0));
        check.same("even and odd", 3, () -> Check.built("(aa)+").states(0));
    }

    private static void buildTooGreat() {
        // An a, then n letters: 2 to the power of n + 1 sets tell apart where an a stood among the last ones.
        LexerForge x = new LexerForge();
        Check.add(x, 0, 0, false, "ab");
        x.build();
        Check.add(x, 1, 0, false, "(a|b)*a(a|b)(a|b)(a|b)(a|b)(a|b)");
        Check.add(x, 2, 0, false, "c");
        check.same("sets of ways", 64 + 2, () -> x.build() - x.states(0) - x.states(2) + 2);
        Check.add(x, 1, 0, false, "(a|b)*a(a|b)(a|b)(a|b)(a|b)(a|b)(a|b)");
        Check.add(x, 3, 0, false, "d");
        check.badState("a mode that is too great", () -> x.build());
        check.same("a build that throws keeps the machines", 64, () -> x.states(1));
        check.same("a build that throws makes no new ones", 0, () -> x.states(3));
        check.same("a build that throws: isMet", false, () -> x.isMet(4));
        Check.add(x, 0, 0, false, "abcd");
        for (int n = 0; n < 2; n++) {
            check.badState("again", () -> x.build());
            check.same("a build that throws keeps the machines of smaller modes", 3, () -> x.states(0));
            check.same("a build that throws keeps the answers", false, () -> x.isMet(5));
        }
        LexerForge y = new LexerForge();
        Check.add(y, 3, 0, false, "(a|b)*a(a|b)(a|b)(a|b)(a|b)(a|b)(a|b)");
        check.badState("a first build that throws", () -> y.build());
        check.badState("a first build that throws is none", () -> y.scan());
        chain(99, true);
        chain(100, false);
    }

    /** Rows of one letter after the other: as many sets as places, and that of the empty word. */
    private static void chain(int places, boolean isSmallEnough) {
        LexerForge x = new LexerForge();
        int left = places;
        String[] heads = {"a", "b", "c", "d"};
        for (int r = 0; r < 4; r++) {
            int own = Math.min(left, 30);
            Check.add(x, 1, 1, false, heads[r] + "a".repeat(own - 1));
            left -= own;
        }
        String what = "build with " + places + " sets behind the empty word's";
        if (isSmallEnough) {
            // Each place is a state; the last one is the end of the last one of the three longest rows.
            check.same(what, places + 1, () -> x.build());
            check.same(what + ": its last state's answer", 2, () -> x.answer(1, 99));
        } else {
            check.badState(what, () -> x.build());
        }
    }

    // ---- promise 9

    private static void states() {
        LexerForge x = new LexerForge();
        Check.add(x, 0, 0, false, "ab");
        Check.add(x, 3, 0, false, "a");
        for (int mode = 0; mode < 4; mode++) {
            int m = mode;
            check.same("states ahead of build " + m, 0, () -> x.states(m));
        }
        x.build();
        int[] due = {3, 0, 0, 2};
        for (int mode = 0; mode < 4; mode++) {
            int m = mode;
            check.same("states " + m, due[m], () -> x.states(m));
        }
        for (int bad : new int[] {-1, 4, MIN, MAX}) {
            check.badIndex("states " + bad, () -> x.states(bad));
        }
    }

    // ---- promise 10

    private static void next() {
        LexerForge x = Check.built("ba", "hb", "ac");
        int[][] due = {
            {1, 2, -1, -1, -1, -1, -1, 3}, {-1, -1, 4, -1, -1, -1, -1, -1}, {5, -1, -1, -1, -1, -1, -1, -1},
            {-1, 6, -1, -1, -1, -1, -1, -1}, {-1, -1, -1, -1, -1, -1, -1, -1}};
        for (int s = 0; s < due.length; s++) {
            for (int l = 0; l < 8; l++) {
                int state = s;
                int letter = l;
                check.same("next " + s + " " + l, due[s][l], () -> x.next(0, state, letter));
            }
        }
        for (int bad : new int[] {-1, 4, MIN, MAX}) {
            check.badIndex("next mode " + bad, () -> x.next(bad, 0, 0));
        }
        for (int bad : new int[] {-1, 7, 100, MIN, MAX}) {
            check.badIndex("next state " + bad, () -> x.next(0, bad, 0));
        }
        for (int bad : new int[] {-1, 8, MIN, MAX}) {
            check.badIndex("next letter " + bad, () -> x.next(0, 0, bad));
        }
        check.badIndex("next in a mode without states", () -> x.next(1, 0, 0));
    }

    // ---- promise 11

    private static void answer() {
        LexerForge x = Check.built("ab|cc", "a.", "b/c*");
        int[] due = {-1, -1, 2, -1, 1, 0};
        check.same("answer: states", 6, () -> x.states(0));
        for (int s = 0; s < due.length; s++) {
            int state = s;
            check.same("answer " + s, due[s], () -> x.answer(0, state));
        }
        for (int bad : new int[] {-1, 4, MIN, MAX}) {
            check.badIndex("answer mode " + bad, () -> x.answer(bad, 0));
        }
        for (int bad : new int[] {-1, 6, 100, MIN, MAX}) {
            check.badIndex("answer state " + bad, () -> x.answer(0, bad));
        }
    }

    // ---- promise 12

    private static void isMet() {
        LexerForge x = new LexerForge();
        boolean[] due = {true, false, true, true, false};
        Check.add(x, 0, 0, false, "a|b");
        Check.add(x, 0, 0, false, "b");
        Check.add(x, 1, 0, false, "b");
        Check.add(x, 0, 0, false, "b+");
        Check.add(x, 2, 0, false, "a/[b-a]");
        check.same("isMet ahead of build", false, () -> x.isMet(0));
        x.build();
        for (int r = 0; r < due.length; r++) {
            int rule = r;
            check.same("isMet " + r, due[r], () -> x.isMet(rule));
        }
        Check.add(x, 3, 0, false, "c");
        check.same("isMet behind build", false, () -> x.isMet(5));
        x.build();
        check.same("isMet behind a new build", true, () -> x.isMet(5));
        for (int bad : new int[] {-1, 6, 12, MIN, MAX}) {
            check.badIndex("isMet " + bad, () -> x.isMet(bad));
        }
    }

    // ---- promise 13

    private static void words() {
        LexerForge x = Check.built("aa", ".+", "a|b");
        check.same("words 0", 0L, () -> x.words(1, 0));
        check.same("words 1", 8L, () -> x.words(1, 1));
        check.same("words 2", 63L, () -> x.words(1, 2));
        check.same("words 2 of the first", 1L, () -> x.words(0, 2));
        check.same("words 3 of the first", 0L, () -> x.words(0, 3));
        check.same("words 18", 1L << 54, () -> x.words(1, 18));
        check.same("words of a rule that is never met", 0L, () -> x.words(2, 1));
        Check.add(x, 0, 0, false, "c");
        check.same("words behind build", 0L, () -> x.words(3, 1));
        for (int bad : new int[] {-1, 19, MIN, MAX}) {
            check.badArgument("words length " + bad, () -> x.words(0, bad));
            check.badArgument("words length behind build " + bad, () -> x.words(3, bad));
            check.badIndex("words rule and length " + bad, () -> x.words(4, bad));
        }
        for (int bad : new int[] {-1, 4, 12, MIN, MAX}) {
            check.badIndex("words rule " + bad, () -> x.words(bad, 1));
        }
        LexerForge y = new LexerForge();
        Check.add(y, 2, 0, false, "a/b*");
        check.same("words ahead of build", 0L, () -> y.words(0, 1));
        y.build();
        check.same("words of a rule with /", 1L, () -> y.words(0, 18));
    }

    // ---- promise 14

    private static void shortest() {
        LexerForge x = Check.built("h", "hb|bh|.ac", "...", "h");
        int[][] due = {{7, -1}, {1, 7, -1}, {0, 0, 0, -1}, {-1, -1}};
        for (int r = 0; r < due.length; r++) {
            for (int i = 0; i < due[r].length; i++) {
                int rule = r;
                int index = i;
                check.same("shortest " + r + " " + i, due[r][i], () -> x.shortest(rule, index));
            }
        }
        check.same("shortest 100", -1, () -> x.shortest(0, 100));
        Check.add(x, 0, 0, false, "c");
        check.same("shortest behind build", -1, () -> x.shortest(4, 0));
        for (int bad : new int[] {-1, 101, MIN, MAX}) {
            check.badIndex("shortest index " + bad, () -> x.shortest(0, bad));
            check.badIndex("shortest index behind build " + bad, () -> x.shortest(4, bad));
        }
        for (int bad : new int[] {-1, 5, 12, MIN, MAX}) {
            check.badIndex("shortest rule " + bad, () -> x.shortest(bad, 0));
        }
        LexerForge y = Check.built("abcdefgh".repeat(3) + "h", "a(b|a)c/de");
        String long25 = "abcdefgh".repeat(3) + "h";
        for (int i = 0; i <= 25; i++) {
            int index = i;
            int letter = i < 25 ? long25.charAt(i) - 'a' : -1;
            check.same("shortest of 25: " + i, letter, () -> y.shortest(0, index));
        }
        int[] withLook = {0, 0, 2, 3, 4, -1};
        for (int i = 0; i < withLook.length; i++) {
            int index = i;
            check.same("shortest with / " + i, withLook[i], () -> y.shortest(1, index));
        }
        check.same("shortest ahead of build", -1, () -> {
            LexerForge z = new LexerForge();
            Check.add(z, 0, 0, false, "a");
            return z.shortest(0, 0);
        });
    }

    // ---- promises 15 and 16

    /** The tokens of the latest scan: rule, position, length and mode of each. */
    private static String tokens(LexerForge x) {
        StringBuilder all = new StringBuilder();
        for (int t = 0; t < x.count(2); t++) {
            for (int what = 0; what < 4; what++) {
                all.append(x.token(t, what)).append(what < 3 ? "," : " ");
            }
        }
        return all.toString().trim();
    }

    /** What scanned() tells. */
    private static String ends(LexerForge x) {
        return x.scanned(0) + "," + x.scanned(1) + "," + x.scanned(2) + "," + x.scanned(3);
    }

    private static void cuts(LexerForge x, String text, int noted, String tokens, String ends) {
        check.same("scan of " + text, noted, () -> Check.scan(x, text));
        check.same("scan empties the tape, " + text, 0, () -> x.count(1));
        check.same("count of tokens of " + text, noted, () -> x.count(2));
        check.same("tokens of " + text, tokens, () -> tokens(x));
        check.same("end of " + text, ends, () -> ends(x));
    }

    private static void scan() {
        LexerForge x = new LexerForge();
        Check.put(x, "ab");
        check.badState("scan ahead of build", () -> x.scan());
        check.same("scan that throws keeps the tape", 2, () -> x.count(1));
        x.trim(0);
        x.build();
        cuts(x, "ab", 2, "-1,0,1,0 -1,1,1,0", "0,2,2,0");
        Check.add(x, 0, 0, false, "a+b");
        Check.add(x, 0, 1, false, "a");
        Check.add(x, 1, 0, true, "c+");
        Check.add(x, 1, 3, false, "a|b");
        cuts(x, "a", 1, "-1,0,1,0", "0,1,1,0");
        x.build();
        cuts(x, "", 0, "", "0,0,0,0");
        cuts(x, "aab", 1, "0,0,3,0", "0,3,0,0");
        cuts(x, "aac", 3, "1,0,1,0 3,1,1,1 -1,2,1,3", "3,3,1,0");
        cuts(x, "accca", 2, "1,0,1,0 1,4,1,0", "1,5,0,1");
        cuts(x, "hb\u0000", 3, "-1,0,1,0 -1,1,1,0 -1,2,1,0", "0,3,3,0");
        cuts(x, "ahc", 2, "1,0,1,0 -1,1,1,1", "0,3,1,1");
        Check.scan(x, "aac");
        cuts(x, "c", 1, "-1,0,1,0", "0,1,1,0");
        cuts(Check.built("ab", "ab|abcd", "a"), "abcabcd", 3, "0,0,2,0 -1,2,1,0 1,3,4,0", "0,7,1,0");
        cuts(Check.built("ab"), "a i", 3, "-1,0,1,0 -1,1,1,0 -1,2,1,0", "0,3,3,0");
        cuts(Check.built("a+"), "a\u00e1aa\u0161a".replace('\u0161', '\u00e2'), 5,
            "0,0,1,0 -1,1,1,0 0,2,2,0 -1,4,1,0 0,5,1,0", "0,6,2,0");
    }

    private static void scanWithLook() {
        cuts(Check.built("a+/b", "a", "b"), "aab", 2, "0,0,2,0 2,2,1,0", "0,3,0,0");
        cuts(Check.built("a+/b", "a", "b"), "aa", 2, "1,0,1,0 1,1,1,0", "0,2,0,0");
        // The token is as long as it can be, not what must follow.
        cuts(Check.built("ab*/b*c", "c"), "abbbc", 2, "0,0,4,0 1,4,1,0", "0,5,0,0");
        cuts(Check.built("ab/b*c", "b+c"), "abbbc", 2, "0,0,2,0 1,2,3,0", "0,5,0,0");
        // It may be that nothing must follow: then the whole piece can be the token.
        cuts(Check.built("a+/a*"), "aaa", 1, "0,0,3,0", "0,3,0,0");
        cuts(Check.built("a/a*"), "aaa", 3, "0,0,1,0 0,1,1,0 0,2,1,0", "0,3,0,0");
        cuts(Check.built("a(bb)*/b*c?"), "abbbc", 3, "0,0,3,0 -1,3,1,0 -1,4,1,0", "0,5,2,0");
        cuts(Check.built("a/b|bb", "b+"), "abbb", 2, "0,0,1,0 1,1,3,0", "0,4,0,0");
        cuts(Check.built("(a|ab)/(ba|a)c", "b", "ac", "bac"), "abac", 2, "0,0,2,0 2,2,2,0", "0,4,0,0");
        cuts(Check.built("a/[b-a]", "a"), "aa", 2, "1,0,1,0 1,1,1,0", "0,2,0,0");
        cuts(Check.built("a/([b-a]|b)", "b"), "ab", 2, "0,0,1,0 1,1,1,0", "0,2,0,0");
        // The token could end later, were it not for the letters that must follow.
        cuts(Check.built("a+/ab"), "aaab", 3, "0,0,2,0 -1,2,1,0 -1,3,1,0", "0,4,2,0");
        cuts(Check.built("a+b*/(ba|b)"), "abba", 3, "0,0,2,0 -1,2,1,0 -1,3,1,0", "0,4,2,0");
        cuts(Check.built("a+b*/bb"), "abbb", 3, "0,0,2,0 -1,2,1,0 -1,3,1,0", "0,4,2,0");
        // The text ends ahead of what must follow.
        cuts(Check.built("a/bc", "a"), "ab", 2, "1,0,1,0 -1,1,1,0", "0,2,1,0");
        LexerForge x = new LexerForge();
        Check.add(x, 0, 1, true, "a/b");
        Check.add(x, 1, 2, false, "b/.");
        Check.add(x, 2, 0, false, ".");
        x.build();
        cuts(x, "abcab", 3, "1,1,1,1 2,2,1,2 -1,4,1,1", "1,5,1,2");
        cuts(Check.built("a+/a*b"), "a".repeat(999) + "b", 2, "0,0,999,0 -1,999,1,0", "0,1000,1,0");
    }

    private static void ends(LexerForge x, String what, String text, int noted, String ends) {
        check.same("scan of " + what, noted, () -> Check.scan(x, text));
        check.same("end of " + what, ends, () -> ends(x));
    }

    private static void scanLimit() {
        LexerForge x = new LexerForge();
        Check.add(x, 0, 1, false, "a");
        Check.add(x, 1, 0, false, "a");
        Check.add(x, 0, 2, true, "b");
        Check.add(x, 2, 0, true, "b");
        x.build();
        ends(x, "499 tokens", "a".repeat(499), 499, "1,499,0,0");
        ends(x, "500 tokens", "a".repeat(500), 500, "0,500,0,0");
        ends(x, "501 tokens", "a".repeat(501), 500, "0,500,0,0");
        ends(x, "1000 tokens", "a".repeat(1000), 500, "0,500,0,0");
        ends(x, "500 tokens and some left out", "a".repeat(500) + "bbb" + "a", 500, "2,503,0,3");
        ends(x, "500 tokens and a byte", "a".repeat(500) + "c", 500, "0,500,0,0");
        ends(x, "500 tokens, some left out and a byte", "a".repeat(500) + "bbbbc", 500, "0,504,0,4");
        ends(x, "1000 bytes left out", "b".repeat(1000), 0, "0,1000,0,1000");
        ends(x, "1000 bytes that are not met", "i".repeat(1000), 500, "0,500,500,0");
        check.same("the token 499", "-1,499,1,0",
            () -> x.token(499, 0) + "," + x.token(499, 1) + "," + x.token(499, 2) + "," + x.token(499, 3));
        check.badIndex("the token 500", () -> x.token(500, 0));
    }

    private static void token() {
        LexerForge x = new LexerForge();
        Check.add(x, 0, 3, false, "ab");
        Check.add(x, 3, 0, false, "a");
        Check.add(x, 3, 0, true, "b");
        x.build();
        cuts(x, "iabbaba", 4, "-1,0,1,0 0,1,2,0 0,4,2,0 1,6,1,3", "0,7,1,1");
        for (int bad : new int[] {-1, 12, 500, MIN, MAX}) {
            check.badIndex("token " + bad, () -> x.token(bad, 0));
        }
        for (int bad : new int[] {-1, 4, MIN, MAX}) {
            check.badIndex("token what " + bad, () -> x.token(0, bad));
        }
        Check.scan(x, "i");
        check.badIndex("a token of the scan before", () -> x.token(1, 0));
    }

    // ---- promise 17

    private static void scanned() {
        LexerForge x = new LexerForge();
        Check.add(x, 0, 2, true, "a");
        Check.add(x, 2, 2, true, "b");
        x.build();
        Check.scan(x, "iabba");
        check.same("scanned", "2,5,2,3", () -> ends(x));
        for (int bad : new int[] {-1, 4, MIN, MAX}) {
            check.badIndex("scanned " + bad, () -> x.scanned(bad));
        }
        x.build();
        Check.add(x, 0, 0, false, "a)");
        check.same("scanned stays", "2,5,2,3", () -> ends(x));
        Check.scan(x, "");
        check.same("scanned of an empty text", "0,0,0,0", () -> ends(x));
    }

    // ---- promise 18

    private static void meanLength() {
        LexerForge x = new LexerForge();
        Check.add(x, 0, 0, false, "a+");
        Check.add(x, 0, 0, true, "b+");
        x.build();
        check.same("meanLength ahead of a scan", 0.0, () -> x.meanLength());
        Check.scan(x, "aabbbbai");
        check.same("meanLength of 2, 1 and 1", 4.0 / 3, () -> x.meanLength());
        Check.scan(x, "bbb");
        check.same("meanLength of none", 0.0, () -> x.meanLength());
        Check.scan(x, "a".repeat(1000));
        check.same("meanLength of 1000", 1000.0, () -> x.meanLength());
    }

    // ---- promise 19

    private static void digest() {
        LexerForge x = new LexerForge();
        // 383, three counts, four modes without states and four numbers of the scan that was not.
        long empty = 383;
        for (int n = 0; n < 11; n++) {
            empty *= 31;
        }
        long due = empty;
        check.same("digest of nothing", due, () -> x.digest());
        check.same("digest again", due, () -> x.digest());
        Check.add(x, 2, 1, true, "ab/c|d");
        Check.add(x, 0, 2, false, "ab+");
        digestIsDue(x, "with rules");
        x.build();
        digestIsDue(x, "with machines");
        Check.scan(x, "abbabcabd!");
        Check.put(x, "abc");
        digestIsDue(x, "with tokens");
    }

    private static void digestIsDue(LexerForge x, String what) {
        long d = Digest.of(x);
        check.same("digest " + what, d, () -> x.digest());
    }
}
