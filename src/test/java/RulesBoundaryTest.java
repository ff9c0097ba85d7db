/** A test for each sentence about patterns and rules that names a boundary case: promises 1 to 7. */
public final class RulesBoundaryTest {
    private static final int MIN = Sentences.MIN;
    private static final int MAX = Sentences.MAX;
    private static final String ARGUMENT = "IllegalArgumentException";
    private static final String STATE = "IllegalStateException";
    private static final String INDEX = "IndexOutOfBoundsException";
    private static final Sentences s = new Sentences("RulesBoundaryTest");

    public static void main(String[] args) {
        newObject();
        tape();
        grammar();
        meanings();
        limits();
        errors();
        rules();
        facts();
        throwing();
        s.end(1, 7);
    }

    // ---- promise 1

    private static void newObject() {
        s.sentence(1, "An object is used for at most 512 calls after it has been made",
            RulesBoundaryTest::manyCalls);
        s.sentence(1, "Creates a maker without rules, machines and tokens, with an empty tape.",
            RulesBoundaryTest::nothingInIt);
        s.sentence(1, "All positions are counted from 0, in bytes.", () -> {
            LexerForge x = Check.built("a");
            s.cuts(x, "a", "0,0,1,0 end 0,1,0,0");
            s.cuts(x, "\u00ff\u0080a", "-1,0,1,0 -1,1,1,0 0,2,1,0 end 0,3,2,0");
            s.fails("i", 1, 0);
            s.fails("aaai", 1, 3);
        });
    }

    /** Four calls, and 127 rounds of four. */
    private static void manyCalls() {
        LexerForge x = new LexerForge();
        s.same("the call 1", 20, () -> x.feed(0x612b0000, 0, 0, 0, 0));
        s.same("the call 2", 2, () -> x.trim(2));
        s.same("the call 3", 0, () -> x.addRule(0, 0, false));
        s.same("the call 4", 2, () -> x.build());
        for (int call = 5; call <= 509; call += 4) {
            s.same("the call " + call, 20, () -> x.feed(0x61616961, 0, 0, 0, 0));
            s.same("trim behind the call " + call, 4, () -> x.trim(4));
            s.same("scan behind the call " + call, 3, () -> x.scan());
            s.same("count behind the call " + call, 3, () -> x.count(2));
        }
    }

    private static void nothingInIt() {
        LexerForge x = new LexerForge();
        s.same("rules", 0, () -> x.count(0));
        s.same("bytes", 0, () -> x.count(1));
        s.same("tokens", 0, () -> x.count(2));
        s.same("errorAt", -1, () -> x.errorAt());
        s.same("meanLength", 0.0, () -> x.meanLength());
        for (int n = 0; n < 4; n++) {
            int mode = n;
            s.same("states of " + n, 0, () -> x.states(mode));
            s.same("scanned " + n, 0, () -> x.scanned(mode));
            s.badIndex("next of " + n, () -> x.next(mode, 0, 0));
            s.badIndex("answer of " + n, () -> x.answer(mode, 0));
        }
        s.badIndex("rule 0", () -> x.rule(0, 0));
        s.badIndex("token 0", () -> x.token(0, 0));
        s.badIndex("isMet of 0", () -> x.isMet(0));
        s.badIndex("words of 0", () -> x.words(0, 0));
        s.badIndex("shortest of 0", () -> x.shortest(0, 0));
        s.badState("scan", () -> x.scan());
        s.badArgument("trim to one byte", () -> x.trim(1));
        s.same("trim to none", 0, () -> x.trim(0));
        s.same("a pattern without bytes", 1, () -> x.addRule(0, 0, false));
        LexerForge other = new LexerForge();
        Check.add(other, 0, 0, false, "a");
        s.same("nothing is shared by two objects", 0, () -> new LexerForge().count(0) + x.count(0));
    }

    // ---- promises 2 and 3

    private static void tape() {
        s.sentence(2, "The tape is a row of at most 1000 bytes, at first empty, which feed and trim fill",
            RulesBoundaryTest::fullTape);
        s.sentence(2, "Appends twenty bytes to the tape: the four bytes of each number, the highest one first.",
            RulesBoundaryTest::fedBytes);
        s.sentence(2, "Returns the number of bytes of the tape.", () -> {
            LexerForge x = new LexerForge();
            s.same("the first", 20, () -> x.feed(MIN, MAX, 0, -1, 1));
            s.same("the second", 40, () -> x.feed(0, 0, 0, 0, 0));
            x.trim(1);
            s.same("behind trim to 1", 21, () -> x.feed(0, 0, 0, 0, 0));
            x.trim(0);
            s.same("behind trim to 0", 20, () -> x.feed(0, 0, 0, 0, 0));
        });
        s.sentence(2, "if there would be more than 1000", () -> {
            LexerForge x = full(980);
            s.same("980 and 20", 1000, () -> x.feed(0, 0, 0, 0, 0));
            s.badState("1000 and 20", () -> x.feed(0, 0, 0, 0, 0));
            s.same("1000 stay", 1000, () -> x.count(1));
            LexerForge y = full(981);
            s.badState("981 and 20", () -> y.feed(0, 0, 0, 0, 0));
            s.same("981 stay", 981, () -> y.count(1));
            LexerForge z = full(979);
            s.same("979 and 20", 999, () -> z.feed(0, 0, 0, 0, 0));
            s.badState("999 and 20", () -> z.feed(0, 0, 0, 0, 0));
        });
        s.sentence(3, "Shortens the tape to its first bytes.", () -> {
            LexerForge x = Check.built("a", "b", "c");
            Check.put(x, "abcabc");
            x.trim(4);
            s.cuts(x, "", "0,0,1,0 1,1,1,0 2,2,1,0 0,3,1,0 end 0,4,0,0");
            Check.put(x, "abc");
            x.trim(1);
            s.cuts(x, "c", "0,0,1,0 2,1,1,0 end 0,2,0,0");
            Check.put(x, "abc");
            x.trim(0);
            s.cuts(x, "b", "1,0,1,0 end 0,1,0,0");
        });
        s.sentence(3, "Returns n.", () -> {
            LexerForge x = full(1000);
            for (int n : new int[] {1000, 999, 500, 500, 1, 0, 0}) {
                s.same("trim to " + n, n, () -> x.trim(n));
                s.same("bytes behind trim to " + n, n, () -> x.count(1));
            }
        });
        s.sentence(3, "if n is not 0 to the number of bytes of the tape", RulesBoundaryTest::trimBounds);
    }

    private static LexerForge full(int bytes) {
        LexerForge x = new LexerForge();
        Check.put(x, "a".repeat(bytes));
        return x;
    }

    private static void fullTape() {
        LexerForge x = Check.built("b+a");
        s.same("at first", 0, () -> x.count(1));
        for (int n = 1; n <= 50; n++) {
            int size = 20 * n;
            s.same("feed " + n, size, () -> x.feed(0x62626262, 0x62626262, 0x62626262, 0x62626262, 0x62626261));
        }
        s.badState("feed 51", () -> x.feed(0, 0, 0, 0, 0));
        s.same("all of it is scanned", 50, () -> x.scan());
        s.same("the last token", "0,980,20,0", () -> Sentences.facts(x, 49));
        s.same("the end", "0,1000,0,0", () -> Sentences.ends(x));
    }

    private static void fedBytes() {
        LexerForge x = Check.built("a", "b", "c", "d", "e", "f", "g", "h");
        x.feed(0x61626364, 0x65666768, 0x7f80ff00, 0x80000061, 0xff626364);
        s.same("twenty", 20, () -> x.scan());
        rulesOfTokens(x, "0 1 2 3 4 5 6 7 -1 -1 -1 -1 -1 -1 -1 0 -1 1 2 3");
        Check.put(x, "h");
        x.feed(0x64006162, MIN, MAX, -1, 0x61ffff68);
        s.same("twenty behind one", 21, () -> x.scan());
        rulesOfTokens(x, "7 3 -1 0 1 -1 -1 -1 -1 -1 -1 -1 -1 -1 -1 -1 -1 0 -1 -1 7");
    }

    private static void rulesOfTokens(LexerForge x, String due) {
        StringBuilder told = new StringBuilder();
        for (int t = 0; t < x.count(2); t++) {
            told.append(x.token(t, 0)).append(' ');
        }
        s.same("the rules of the tokens", due, () -> told.toString().trim());
    }

    private static void trimBounds() {
        LexerForge x = new LexerForge();
        s.badArgument("an empty tape to 1", () -> x.trim(1));
        s.badArgument("an empty tape to -1", () -> x.trim(-1));
        s.same("an empty tape to 0", 0, () -> x.trim(0));
        Check.put(x, "abc");
        for (int bad : new int[] {-1, 4, 20, 1000, 1001, MIN, MAX}) {
            s.badArgument("3 bytes to " + bad, () -> x.trim(bad));
        }
        s.same("3 bytes to 3", 3, () -> x.trim(3));
        s.same("3 bytes to 2", 2, () -> x.trim(2));
        s.badArgument("2 bytes to 3", () -> x.trim(3));
        s.same("2 bytes to 0", 0, () -> x.trim(0));
        s.badArgument("no bytes to 1", () -> x.trim(1));
        LexerForge y = full(1000);
        s.badArgument("1000 bytes to 1001", () -> y.trim(1001));
        s.same("1000 bytes to 1000", 1000, () -> y.trim(1000));
    }

    // ---- promise 4: how a pattern is written

    private static void grammar() {
        s.sentence(4, "pattern = either [ \"/\" either ]", () -> {
            stand("a", "a/b", "a|b/c|d", "a/[b-a]", "a/b?");
            s.fails("/a", 1, 0);
            s.fails("a/", 1, 2);
            s.fails("/", 1, 0);
            s.fails("a//b", 1, 2);
            s.fails("a/b/c", 1, 3);
            s.fails("(a/b)", 1, 2);
            s.fails("a/(b/c)", 1, 4);
        });
        s.sentence(4, "either = row { \"|\" row }", () -> {
            stand("a|b", "a|b|c|d", "(a|b)", "a/b|c", "ab|c?d");
            s.fails("|a", 1, 0);
            s.fails("a|", 1, 2);
            s.fails("a||b", 1, 2);
            s.fails("(|a)", 1, 1);
            s.fails("(a|)", 1, 3);
            s.fails("a|/b", 1, 2);
            s.fails("a/|b", 1, 2);
        });
        s.sentence(4, "row = item { item }", () -> {
            stand("a", "ab", "a(b)c");
            s.fails("", 1, 0);
            s.fails("()", 1, 1);
            s.fails("a()", 1, 2);
        });
        s.sentence(4, "item = atom [ \"*\" | \"+\" | \"?\" ]", () -> {
            stand("ab*", "a+", "ab?", "a+b*c?", "(a)+", "[a]+", ".+", "(a?)b", "((a*)*)b");
            for (String sign : new String[] {"*", "+", "?"}) {
                s.fails(sign, 1, 0);
                s.fails("(" + sign, 1, 1);
                s.fails("a|" + sign, 1, 2);
                s.fails("a/" + sign, 1, 2);
                s.fails("a+" + sign, 1, 2);
                s.fails("a*" + sign, 1, 2);
                s.fails("a?" + sign, 1, 2);
            }
        });
        s.sentence(4, "atom = letter | \".\" | \"[\" span { span } \"]\" | \"(\" either \")\"", () -> {
            stand("a", "h", ".", "[a]", "[ab]", "(a)", "((a))");
            s.fails("[]", 1, 1);
            s.fails("]", 1, 0);
            s.fails("a]", 1, 1);
            s.fails("[a)", 1, 2);
            s.fails("[a.]", 1, 2);
            s.fails("[a*]", 1, 2);
            s.fails(")", 1, 0);
            s.fails("a)", 1, 1);
            s.fails("(a))", 1, 3);
            s.fails("(a]", 1, 2);
        });
        s.sentence(4, "span = letter [ \"-\" letter ]", () -> {
            stand("[a-b]", "[a-a]", "[h-a]", "[a-bc-d]", "[aa-b]", "[a-bb]");
            s.fails("[-a]", 1, 1);
            s.fails("[a-]", 1, 3);
            s.fails("[a--b]", 1, 3);
            s.fails("[a-b-c]", 1, 4);
            s.fails("[a-i]", 1, 3);
            s.fails("[i-a]", 1, 1);
            s.fails("a-b", 1, 1);
            s.fails("-", 1, 0);
        });
        s.sentence(4, "The letters are a to h (97 to 104); no pattern matches another byte.",
            RulesBoundaryTest::eachByte);
    }

    private static void stand(String... patterns) {
        for (String pattern : patterns) {
            s.stands(pattern);
        }
    }

    private static void eachByte() {
        for (int b = 0; b < 256; b++) {
            String one = String.valueOf((char) b);
            boolean isLetter = b >= 97 && b <= 104;
            boolean isBegin = one.equals("(") || one.equals("[");
            if (isLetter || one.equals(".")) {
                s.stands(one);
            } else {
                s.fails(one, 1, isBegin ? 1 : 0);
            }
            if (isLetter) {
                s.stands("[" + one + "]");
            } else {
                s.fails("[" + one + "]", 1, 1);
            }
        }
    }

    // ---- promise 4: what a pattern matches

    private static void meanings() {
        s.sentence(4, "A letter matches itself", () -> {
            for (int n = 0; n < 8; n++) {
                int letter = n;
                LexerForge x = Check.built(String.valueOf((char) ('a' + n)));
                s.same("words of the letter " + n, 1L, () -> x.words(0, 1));
                s.same("the word of the letter " + n, letter, () -> x.shortest(0, 0));
            }
        });
        s.sentence(4, ". any letter", () -> s.matches(".", 0, 8, 0));
        s.sentence(4, "a span of two letters is from the first one to the second one; "
            + "none, if the first one is greater",
            () -> {
                s.matches("[a-a]", 0, 1, 0);
                s.matches("[h-h]", 0, 1, 0);
                s.matches("[a-h]", 0, 8, 0);
                s.matches("[a-b]", 0, 2, 0);
                s.matches("[g-h]", 0, 2, 0);
                s.matches("[b-a]", 0, 0, 0);
                s.matches("[h-a]", 0, 0, 0);
                s.matches("[h-g]", 0, 0, 0);
                s.matches("[b-ac]", 0, 1, 0);
                s.matches("[b-aa-b]", 0, 2, 0);
                LexerForge x = Check.built("[c-e]");
                s.same("c to e begins with c", 2, () -> x.shortest(0, 0));
                s.same("c to e has three", 3L, () -> x.words(0, 1));
            });
        s.sentence(4, "[ ] any letter of its spans", () -> {
            s.matches("[a]", 0, 1, 0);
            s.matches("[ah]", 0, 2, 0);
            s.matches("[aa]", 0, 1, 0);
            s.matches("[a-cbb-d]", 0, 4, 0);
            s.matches("[a-cg-h]", 0, 5, 0);
        });
        s.sentence(4, "* is any number of times, also none, + at least once, ? once or not at all", () -> {
            s.matches("ab*", 0, 1, 1, 1, 1, 1, 1, 1, 1, 1, 1, 1, 1, 1, 1, 1, 1, 1, 1);
            s.matches("ab+", 0, 0, 1, 1, 1, 1, 1, 1, 1, 1, 1, 1, 1, 1, 1, 1, 1, 1, 1);
            s.matches("ab?", 0, 1, 1, 0, 0);
            s.matches("a(bc)*", 0, 1, 0, 1, 0, 1);
            s.matches("a(bc)+", 0, 0, 0, 1, 0, 1);
            s.matches("a(bc)?", 0, 1, 0, 1, 0, 0);
            s.matches("(a?)+b", 0, 1, 1, 1, 1);
            s.matches("(a+)?b", 0, 1, 1, 1, 1);
            s.matches("(a?b?)*c", 0, 1, 2, 4, 8);
        });
        s.sentence(4, "rows are one behind the other, | is one or the other", () -> {
            s.matches("ab|cd", 0, 0, 2, 0, 0);
            s.matches("a(b|c)d", 0, 0, 0, 2, 0);
            s.matches("ab*|c", 0, 2, 1, 1);
        });
        s.sentence(4, "(it may be that nothing must, if that matches nothing)", () -> {
            s.matches("a/b*", 0, 1, 1, 1);
            s.matches("a/b?", 0, 1, 1, 0);
            s.matches("a/b", 0, 0, 1, 0);
            s.matches("a/b+", 0, 0, 1, 1);
            s.matches("a/b|c?", 0, 1, 2, 0);
            s.matches("a/b?c?", 0, 1, 2, 1, 0);
        });
    }

    // ---- promise 4: limits of a pattern

    private static void limits() {
        s.sentence(4, "A pattern has at most 40 bytes and at most 30 places; brackets ( ) are at most 6 deep.", () -> {
            String forty = "[" + "a".repeat(38) + "]";
            s.stands(forty);
            s.fails(forty + "b", 1, 40);
            s.stands("b".repeat(29) + "(b)+");
            s.stands("b".repeat(30));
            s.fails("b".repeat(31), 1, 30);
            s.stands("((((((a))))))");
            s.fails("(((((((a)))))))", 1, 6);
        });
        s.sentence(4, "the ( that would be the 7th within another", () -> {
            s.fails("(((((((", 1, 6);
            s.fails("((((((", 1, 6);
            s.stands("((((((a))))))((((((b))))))");
            s.fails("((((((a)(", 1, 9);
            s.fails("((((((a)((", 1, 9);
            s.fails("((((((a)))))((a", 1, 15);
            s.fails("((((((a)))))(((((((", 1, 17);
            s.stands("((((((a))))))/((((((b))))))");
            s.fails("a/(((((((b", 1, 8);
            s.stands("(((((([a-h]))))))");
            s.fails("((((((a|(", 1, 8);
            s.fails("((((((a*(", 1, 8);
        });
        s.sentence(4, "the 41st byte", () -> {
            String thirtyNine = "[" + "a".repeat(37) + "]";
            s.stands(thirtyNine);
            s.stands(thirtyNine + "+");
            s.fails(thirtyNine + "+b", 1, 40);
            s.fails(thirtyNine + "+i", 1, 40);
            s.fails(thirtyNine + "+ ", 1, 40);
            s.fails(thirtyNine + "+" + "b".repeat(960), 1, 40);
            s.fails("[" + "a".repeat(999), 1, 40);
            s.fails("[" + "a".repeat(38) + "]*b", 1, 40);
            s.fails(thirtyNine + "(a)", 1, 40);
            s.stands("[" + "a".repeat(36) + "]/b");
            s.fails("[" + "a".repeat(37) + "]/b", 1, 40);
        });
        s.sentence(4, "the first byte of the 31st place", RulesBoundaryTest::places);
    }

    private static void places() {
        String thirty = "a".repeat(30);
        s.stands(thirty);
        s.stands(thirty + "*");
        s.fails(thirty + "a", 1, 30);
        s.fails(thirty + ".", 1, 30);
        s.fails(thirty + "[", 1, 30);
        s.fails(thirty + "[i", 1, 30);
        s.fails(thirty + "[a]", 1, 30);
        s.fails(thirty + "+a", 1, 31);
        s.fails(thirty + "|a", 1, 31);
        s.fails(thirty + "/a", 1, 31);
        s.fails(thirty + "(a", 1, 31);
        s.fails(thirty + "((a", 1, 32);
        s.stands("[a-h]" + "b".repeat(29));
        s.stands("b".repeat(29) + "[aaaaaaaaa]");
        s.fails("b".repeat(29) + "[aaaaaaa].", 1, 38);
        s.stands("b".repeat(29) + "/.");
        s.fails("b".repeat(29) + "/..", 1, 31);
        s.fails("b".repeat(29) + "/.[", 1, 31);
    }

    // ---- promises 4 and 5: errors

    private static void errors() {
        s.sentence(4, "the first byte with which the bytes so far are not the beginning of a pattern", () -> {
            s.fails("i", 1, 0);
            s.fails("ai", 1, 1);
            s.fails("abcdefghi", 1, 8);
            s.fails("ab c", 1, 2);
            s.fails("a\u0000", 1, 1);
            s.fails("a\u00e1", 1, 1);
            s.fails("aA", 1, 1);
            s.fails("(a*b+)**", 1, 7);
            s.fails("[abc-h-", 1, 6);
            s.fails("a/b|c/d", 1, 5);
            s.fails("a".repeat(29) + "i", 1, 29);
            s.fails("[" + "a".repeat(38) + "i", 1, 39);
        });
        s.sentence(4, "the end of the tape, if it ends too early", () -> {
            String[] early = {"", "(", "[", "[a", "[a-", "[a-b", "(a", "(a|", "(a*", "a|", "a/", "a*/", "a*|", "(a)(",
                "a/(b", "((((((", "((a)"};
            for (String pattern : early) {
                s.fails(pattern, 1, pattern.length());
            }
            s.fails("[" + "a".repeat(38), 1, 39);
            s.fails("[" + "a".repeat(39), 1, 40);
        });
        s.sentence(4, "(There is one error at the first place where one of these is.)",
            RulesBoundaryTest::firstOfErrors);
        s.sentence(4, "Error 2 (at 0): the token may be empty.", RulesBoundaryTest::emptyTokens);
        s.sentence(4, "Returns 0, or the error, 1 or 2.", () -> {
            LexerForge x = new LexerForge();
            s.same("none", 0, () -> Check.add(x, 0, 0, false, "a"));
            s.same("the first", 1, () -> Check.add(x, 0, 0, false, "a)"));
            s.same("the second", 2, () -> Check.add(x, 0, 0, false, "a?"));
        });
        s.sentence(5, "Returns the position of the error of the latest addRule; -1 if it had none, or there was none.",
            RulesBoundaryTest::latestError);
    }

    private static void firstOfErrors() {
        s.fails("i" + "a".repeat(50), 1, 0);
        s.fails("(((((((i", 1, 6);
        s.fails("(((((i((", 1, 5);
        s.fails("a".repeat(30) + "i" + "a".repeat(20), 1, 30);
        s.fails("a".repeat(31) + "i", 1, 30);
        s.fails("a".repeat(20) + "i" + "a".repeat(20), 1, 20);
        s.fails("a".repeat(30) + "(((((((a", 1, 36);
        s.fails("a".repeat(30) + "((((((a", 1, 36);
        s.fails("a".repeat(30) + "+".repeat(20), 1, 31);
        s.fails("a+".repeat(20) + "a", 1, 40);
        s.fails("a+".repeat(19) + "(a", 1, 40);
        s.fails("a+".repeat(19) + "((a", 1, 40);
        s.fails("a+".repeat(19) + "a)a", 1, 39);
        s.fails("a?)", 1, 2);
        s.fails("a?" + "b?".repeat(20), 1, 40);
    }

    private static void emptyTokens() {
        for (String pattern : new String[] {"a*", "a?", "a*b?", "a|b*", "b?|a", "(a*)+", "(a?)", "(a|b?)(c*)", "[b-a]*",
                "a*/b", "a?|b/c", ".?", "(.*)*"}) {
            s.fails(pattern, 2, 0);
        }
        s.fails("[" + "a".repeat(37) + "]*", 2, 0);
        s.fails("(a?b?c?d?e?f?g?h?)+", 2, 0);
        stand("a*b", "a+", "ab*", "(a?)+b", "a/b*", "a|b", "[b-a]", "[b-a]+", "a?b/c?", "(a*)b");
    }

    private static void latestError() {
        LexerForge x = new LexerForge();
        s.same("there was none", -1, () -> x.errorAt());
        Check.add(x, 0, 0, false, "abc)");
        s.same("the first", 3, () -> x.errorAt());
        Check.add(x, 0, 0, false, "ab)");
        s.same("the latest", 2, () -> x.errorAt());
        x.build();
        Check.scan(x, "a");
        s.badArgument("a bad mode", () -> Check.add(x, 4, 0, false, "a"));
        s.same("behind other calls", 2, () -> x.errorAt());
        x.trim(0);
        Check.add(x, 0, 0, false, "b*");
        s.same("of error 2", 0, () -> x.errorAt());
        Check.add(x, 0, 0, false, "a");
        s.same("it had none", -1, () -> x.errorAt());
        x.addRule(0, 0, false);
        s.same("of an empty tape", 0, () -> x.errorAt());
        Check.add(x, 0, 0, false, "[" + "a".repeat(60));
        s.same("the greatest", 40, () -> x.errorAt());
    }

    // ---- promise 4: what addRule adds

    private static void rules() {
        s.sentence(4, "addRule and scan read it, and it is empty behind each of them.", () -> {
            LexerForge x = new LexerForge();
            for (String pattern : new String[] {"a", "a)", "a*", "", "[" + "a".repeat(900)}) {
                Check.add(x, 0, 0, false, pattern);
                s.same("behind " + pattern, 0, () -> x.count(1));
                s.badArgument("trim behind " + pattern, () -> x.trim(1));
            }
            s.same("the next pattern begins at 0", 0, () -> Check.add(x, 0, 0, false, "b"));
        });
        s.sentence(4, "There are at most 12 rules, numbered from 0 in the order in which they came",
            RulesBoundaryTest::twelveRules);
        s.sentence(4, "a rule has a mode, 0 to 3, a next mode, and its tokens can be left out", () -> {
            LexerForge x = new LexerForge();
            for (int n = 0; n < 8; n++) {
                int rule = n;
                Check.add(x, n & 3, 3 - (n & 3), n > 3, "a");
                s.same("mode of " + n, n & 3, () -> x.rule(rule, 0));
                s.same("next mode of " + n, 3 - (n & 3), () -> x.rule(rule, 1));
                s.same("left out " + n, n > 3 ? 1 : 0, () -> x.rule(rule, 2));
            }
        });
        s.sentence(4, "nothing is added if the pattern has an error", RulesBoundaryTest::nothingAdded);
        s.sentence(4, "The machines stay as they are.", RulesBoundaryTest::machinesStay);
        s.sentence(4, "if mode or next is not 0 to 3", () -> {
            LexerForge x = new LexerForge();
            for (int mode = 0; mode < 4; mode++) {
                int m = mode;
                s.same("mode " + m, 0, () -> Check.add(x, m, 3 - m, false, "a"));
            }
            Check.put(x, "a");
            for (int bad : new int[] {-1, 4, MIN, MAX}) {
                s.badArgument("mode " + bad, () -> x.addRule(bad, 0, false));
                s.badArgument("next " + bad, () -> x.addRule(0, bad, false));
                s.badArgument("both " + bad, () -> x.addRule(bad, bad, true));
            }
            s.same("rules", 4, () -> x.count(0));
        });
        s.sentence(4, "if there are 12 rules", () -> {
            LexerForge x = rules(11);
            s.same("the 12th", 0, () -> Check.add(x, 0, 0, false, "a"));
            for (String pattern : new String[] {"a", "a)", "a*", ""}) {
                Check.put(x, pattern);
                s.badState("the 13th, " + pattern, () -> x.addRule(0, 0, false));
                s.same("bytes behind the 13th, " + pattern, pattern.length(), () -> x.count(1));
                x.trim(0);
            }
            s.same("12", 12, () -> x.count(0));
        });
    }

    private static LexerForge rules(int rules) {
        LexerForge x = new LexerForge();
        for (int n = 0; n < rules; n++) {
            Check.add(x, n & 3, 0, false, "a".repeat(n + 1));
        }
        return x;
    }

    private static void twelveRules() {
        LexerForge x = rules(12);
        s.same("twelve", 12, () -> x.count(0));
        for (int n = 0; n < 12; n++) {
            int rule = n;
            s.same("places of " + n, n + 1, () -> x.rule(rule, 4));
        }
        s.same("states", 10 + 11 + 12 + 13, () -> x.build());
        s.same("the last one is met", true, () -> x.isMet(11));
        s.badIndex("a 13th", () -> x.rule(12, 0));
    }

    private static void nothingAdded() {
        for (String pattern : new String[] {"a)", "a*", "", "a/b/c", "abc/d?e|", "(.+.+/", ".+.+.+)", "(.*.*)*",
                "a?/b", "[" + "a".repeat(60)}) {
            LexerForge x = rules(11);
            x.build();
            s.same("has an error: " + pattern, true, () -> Check.add(x, 3, 2, true, pattern) > 0);
            s.same("rules behind " + pattern, 11, () -> x.count(0));
            s.badIndex("no rule 11 behind " + pattern, () -> x.rule(11, 0));
            s.same("the next one is added, " + pattern, 0, () -> Check.add(x, 1, 0, false, "bc"));
            s.same("mode behind " + pattern, 1, () -> x.rule(11, 0));
            s.same("next behind " + pattern, 0, () -> x.rule(11, 1));
            s.same("left out behind " + pattern, 0, () -> x.rule(11, 2));
            s.same("/ behind " + pattern, 0, () -> x.rule(11, 3));
            s.same("places behind " + pattern, 2, () -> x.rule(11, 4));
            s.same("first places behind " + pattern, 1, () -> x.rule(11, 5));
            x.build();
            for (int n = 0; n <= 18; n++) {
                int length = n;
                s.same("words behind " + pattern, n == 2 ? 1L : 0L, () -> x.words(11, length));
            }
        }
    }

    private static void machinesStay() {
        LexerForge x = Check.built("ab", "c");
        Check.add(x, 0, 0, false, "ad|b");
        Check.add(x, 1, 0, false, "a");
        Check.add(x, 0, 0, false, "a)");
        s.same("states", 4, () -> x.states(0));
        s.same("states of another mode", 0, () -> x.states(1));
        int[] due = {1, -1, 2, -1, -1, -1, -1, -1};
        for (int n = 0; n < 8; n++) {
            int letter = n;
            s.same("next of " + n, due[n], () -> x.next(0, 0, letter));
        }
        s.same("answer of 1", -1, () -> x.answer(0, 1));
        s.same("answer of 2", 1, () -> x.answer(0, 2));
        s.same("isMet of 0", true, () -> x.isMet(0));
        s.same("isMet of 2", false, () -> x.isMet(2));
        s.cuts(x, "adab", "-1,0,1,0 -1,1,1,0 0,2,2,0 end 0,4,2,0");
    }

    // ---- promises 6 and 7

    private static void facts() {
        s.sentence(6, "2 1 if its tokens are left out, else 0", () -> {
            s.same("left out", 1, () -> fact(true, "a", 2));
            s.same("not left out", 0, () -> fact(false, "a", 2));
        });
        s.sentence(6, "3 1 if it has a /, else 0", () -> {
            s.same("with /", 1, () -> fact(false, "a/b", 3));
            s.same("with / behind which nothing must be", 1, () -> fact(false, "a/b?", 3));
            s.same("with / behind which nothing can be", 1, () -> fact(false, "a/[b-a]", 3));
            s.same("without /", 0, () -> fact(true, "a(b|c)", 3));
        });
        s.sentence(6, "letters within a [ ] are no places of their own; "
            + "a [ ] without letters is a place that matches nothing",
            () -> {
                hasPlaces("[abc-fh]", 1, 1);
                hasPlaces("[b-a]", 1, 0);
                hasPlaces("[b-a]a", 2, 0);
                hasPlaces("[b-a]?a", 2, 1);
                s.matches("[b-a]", 0, 0, 0);
                s.matches("a[b-a]", 0, 0, 0);
                s.matches("a[b-a]?", 0, 1, 0);
                s.matches("a[b-a]*b", 0, 0, 1, 0);
                s.matches("a|[b-a]", 0, 1, 0);
                s.matches("a/[b-a]", 0, 0, 0);
                s.matches("a/[b-a]?", 0, 1, 0);
            });
        s.sentence(6, "each one as often as it stands there", () -> {
            hasPlaces("a", 1, 1);
            hasPlaces("aa", 2, 1);
            hasPlaces("a*a*.", 3, 3);
            hasPlaces("a|a|.|[a]|[a]", 5, 5);
            hasPlaces("a/a", 2, 1);
            hasPlaces("(a|b)+/(c|.)*", 4, 2);
        });
        s.sentence(6, "4 the number of its places", () -> {
            s.same("one", 1, () -> fact(false, "a", 4));
            s.same("thirty", 30, () -> fact(false, "a".repeat(30), 4));
            s.same("thirty with /", 30, () -> fact(false, "a".repeat(29) + "/b", 4));
        });
        s.sentence(6, "5 how many of these match the first letter of some word that it meets",
            RulesBoundaryTest::firstPlaces);
        s.sentence(6, "if there is no such rule, or what is not 0 to 5", RulesBoundaryTest::ruleBounds);
        s.sentence(7, "0 rules, 1 bytes of the tape, 2 tokens that were noted by the latest scan",
            RulesBoundaryTest::counts);
        s.sentence(7, "if what is not 0 to 2", () -> {
            for (LexerForge x : new LexerForge[] {new LexerForge(), Sentences.busy()}) {
                for (int bad : new int[] {-1, 3, MIN, MAX}) {
                    s.badIndex("what " + bad, () -> x.count(bad));
                }
            }
            LexerForge y = Sentences.busy();
            s.same("what 0", 4, () -> y.count(0));
            s.same("what 2", 2, () -> y.count(2));
        });
    }

    private static int fact(boolean isLeftOut, String pattern, int what) {
        LexerForge x = new LexerForge();
        Check.add(x, 1, 2, isLeftOut, pattern);
        return x.rule(0, what);
    }

    private static void hasPlaces(String pattern, int places, int first) {
        s.same("places of " + pattern, places, () -> fact(false, pattern, 4));
        s.same("first places of " + pattern, first, () -> fact(false, pattern, 5));
    }

    private static void firstPlaces() {
        hasPlaces("a".repeat(30), 30, 1);
        hasPlaces("a?".repeat(19) + "a", 20, 20);
        hasPlaces("a*b*c", 3, 3);
        hasPlaces("a*b+c", 3, 2);
        hasPlaces("a/b", 2, 1);
        hasPlaces("a/[b-a]", 2, 0);
        hasPlaces("a/[b-a]?", 2, 1);
        hasPlaces("a[b-a]|c", 3, 1);
        hasPlaces("a([b-a]|b)|c[b-a]", 5, 1);
        hasPlaces("(a[b-a]|b)+", 3, 1);
        hasPlaces("(a|b)(c|d)", 4, 2);
        hasPlaces("a+/a*", 2, 1);
    }

    private static void ruleBounds() {
        LexerForge none = new LexerForge();
        s.badIndex("without rules", () -> none.rule(0, 0));
        LexerForge x = Sentences.busy();
        for (int bad : new int[] {-1, 4, 11, 12, MIN, MAX}) {
            s.badIndex("rule " + bad, () -> x.rule(bad, 0));
        }
        s.same("rule 3 that came behind build", 0, () -> x.rule(3, 3));
        for (int bad : new int[] {-1, 6, MIN, MAX}) {
            s.badIndex("what " + bad, () -> x.rule(0, bad));
            s.badIndex("both, what " + bad, () -> x.rule(-1, bad));
        }
        s.same("what 0", 0, () -> x.rule(0, 0));
        s.same("what 5", 1, () -> x.rule(0, 5));
        LexerForge full = rules(12);
        s.same("rule 11", 12, () -> full.rule(11, 4));
        for (int bad : new int[] {-1, 12, 13, MIN, MAX}) {
            s.badIndex("rule of twelve " + bad, () -> full.rule(bad, 4));
        }
    }

    private static void counts() {
        LexerForge x = rules(12);
        x.build();
        Check.put(x, "i".repeat(1000));
        s.same("rules", 12, () -> x.count(0));
        s.same("bytes", 1000, () -> x.count(1));
        s.same("tokens ahead of a scan", 0, () -> x.count(2));
        x.scan();
        s.same("bytes behind a scan", 0, () -> x.count(1));
        s.same("tokens", 500, () -> x.count(2));
        Check.scan(x, "ii");
        s.same("tokens of the latest scan", 2, () -> x.count(2));
        x.scan();
        s.same("tokens of an empty text", 0, () -> x.count(2));
        LexerForge y = new LexerForge();
        Check.add(y, 0, 0, true, "a");
        y.build();
        Check.scan(y, "aia");
        s.same("tokens that were left out are none of them", 1, () -> y.count(2));
    }

    // ---- what holds for each method that throws

    private static void throwing() {
        String nothing = "A method that throws an exception changes nothing.";
        s.sentence(2, nothing, () -> {
            LexerForge x = Check.built("a", "b");
            Check.scan(x, "ab");
            Check.put(x, "a".repeat(980) + "b");
            s.throwsAndKeepsAll("feed past 1000", STATE, x, o -> o.feed(0x62626262, 0, 0, 0, 0));
            x.trim(980);
            x.feed(0, 0, 0, 0, 0x6161);
            s.throwsAndKeepsAll("feed onto 1000", STATE, x, o -> o.feed(0, 0, 0, 0, 0));
            x.trim(3);
            s.cuts(x, "", "0,0,1,0 0,1,1,0 0,2,1,0 end 0,3,0,0");
        });
        s.sentence(3, nothing, () -> {
            for (int bad : new int[] {-1, 4, MIN, MAX}) {
                s.throwsAndChangesNothing("trim to " + bad, ARGUMENT, o -> o.trim(bad));
            }
        });
        s.sentence(4, nothing, () -> {
            for (int bad : new int[] {-1, 4, MIN, MAX}) {
                s.throwsAndChangesNothing("mode " + bad, ARGUMENT, o -> o.addRule(bad, 1, true));
                s.throwsAndChangesNothing("next " + bad, ARGUMENT, o -> o.addRule(1, bad, true));
            }
            LexerForge x = rules(12);
            x.build();
            Check.scan(x, "aai");
            Check.put(x, "aa");
            s.throwsAndKeepsAll("the 13th rule", STATE, x, o -> o.addRule(1, 1, true));
            s.cuts(x, "i", "0,0,1,0 0,1,1,0 -1,2,1,0 end 0,3,1,0");
        });
        s.sentence(6, nothing, () -> {
            s.throwsAndChangesNothing("no such rule", INDEX, o -> o.rule(4, 0));
            s.throwsAndChangesNothing("no such what", INDEX, o -> o.rule(0, 6));
        });
        s.sentence(7, nothing, () -> s.throwsAndChangesNothing("no such what", INDEX, o -> o.count(3)));
        s.sentence(4, "If several exceptions apply, the one that is named first is thrown.", () -> {
            LexerForge x = rules(12);
            for (int bad : new int[] {-1, 4, MIN, MAX}) {
                s.badArgument("12 rules and mode " + bad, () -> x.addRule(bad, 0, false));
                s.badArgument("12 rules and next " + bad, () -> x.addRule(0, bad, false));
            }
            s.badState("12 rules alone", () -> x.addRule(0, 0, false));
        });
    }
}
