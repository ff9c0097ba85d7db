import java.math.BigInteger;
import java.util.ArrayList;
import java.util.List;

/** A test for each sentence about scanning that names a boundary case: promises 15 to 19. */
public final class ScanningBoundaryTest {
    private static final int MIN = Sentences.MIN;
    private static final int MAX = Sentences.MAX;
    private static final String STATE = "IllegalStateException";
    private static final String INDEX = "IndexOutOfBoundsException";
    private static final Sentences s = new Sentences("ScanningBoundaryTest");

    public static void main(String[] args) {
        pieces();
        look();
        modes();
        limit();
        scan();
        tokens();
        scanned();
        meanLength();
        digest();
        throwing();
        s.end(15, 19);
    }

    // ---- promise 15: how the text is cut

    private static void pieces() {
        s.sentence(15, "the longest piece of the text is sought that is met by a rule of the mode (at least one byte); "
            + "its answer is the rule.", ScanningBoundaryTest::longestPieces);
        s.sentence(15, "If there is no such piece, one byte is noted as a token with the rule -1; the mode stays.",
            () -> {
            LexerForge x = modesOfAAndB();
            s.cuts(x, "b", "-1,0,1,0 end 0,1,1,0");
            s.cuts(x, "bba", "-1,0,1,0 -1,1,1,0 0,2,1,0 end 1,3,2,0");
            s.cuts(x, "aiab", "0,0,1,0 -1,1,1,1 -1,2,1,1 1,3,1,1 end 0,4,2,0");
            s.cuts(Check.built("abc"), "abab", "-1,0,1,0 -1,1,1,0 -1,2,1,0 -1,3,1,0 end 0,4,4,0");
            s.cuts(Check.built("abc", "b"), "ababc", "-1,0,1,0 1,1,1,0 0,2,3,0 end 0,5,1,0");
            LexerForge nothing = new LexerForge();
            nothing.build();
            s.cuts(nothing, "a!", "-1,0,1,0 -1,1,1,0 end 0,2,2,0");
        });
        s.sentence(15, "The letters are a to h (97 to 104); no pattern matches another byte.", () -> {
            LexerForge x = Check.built(".", "[a-h]");
            StringBuilder text = new StringBuilder();
            for (int b = 0; b < 256; b++) {
                text.append((char) b);
            }
            s.same("each byte is a token", 256, () -> Check.scan(x, text.toString()));
            for (int b = 0; b < 256; b++) {
                int token = b;
                s.same("the byte " + b, b >= 97 && b <= 104 ? 0 : -1, () -> x.token(token, 0));
            }
            s.cuts(Check.built(".+"), "ab`ab\u00e1hi",
                "0,0,2,0 -1,2,1,0 0,3,2,0 -1,5,1,0 0,6,1,0 -1,7,1,0 end 0,8,3,0");
        });
    }

    /** Of mode 0 an a, which leads to mode 1; of mode 1 a b, which leads back. */
    private static LexerForge modesOfAAndB() {
        LexerForge x = new LexerForge();
        Check.add(x, 0, 1, false, "a");
        Check.add(x, 1, 0, false, "b");
        x.build();
        return x;
    }

    private static void longestPieces() {
        s.cuts(Check.built("a"), "a", "0,0,1,0 end 0,1,0,0");
        s.cuts(Check.built("a", "aa"), "aaa", "1,0,2,0 0,2,1,0 end 0,3,0,0");
        s.cuts(Check.built("aa", "a+"), "aa", "0,0,2,0 end 0,2,0,0");
        s.cuts(Check.built("aa", "a+"), "aaa", "1,0,3,0 end 0,3,0,0");
        s.cuts(Check.built("a", "abab"), "ababa", "1,0,4,0 0,4,1,0 end 0,5,0,0");
        s.cuts(Check.built("a", "abab", "b"), "abaa", "0,0,1,0 2,1,1,0 0,2,1,0 0,3,1,0 end 0,4,0,0");
        s.cuts(Check.built("a", "ab", "abcde"), "abcd", "1,0,2,0 -1,2,1,0 -1,3,1,0 end 0,4,2,0");
        s.cuts(Check.built("a|b", "b|c"), "abc", "0,0,1,0 0,1,1,0 1,2,1,0 end 0,3,0,0");
        LexerForge x = Check.built("a+");
        s.same("a piece of 1000 bytes", 1, () -> Check.scan(x, "a".repeat(1000)));
        s.same("its token", "0,0,1000,0", () -> Sentences.facts(x, 0));
    }

    private static void look() {
        s.sentence(15, "the longest beginning of this piece that is matched by the token so that the rest of the piece "
            + "is matched by what must follow", () -> {
                s.cuts(Check.built("a/b"), "ab", "0,0,1,0 -1,1,1,0 end 0,2,1,0");
                s.cuts(Check.built("a+/a"), "aaa", "0,0,2,0 -1,2,1,0 end 0,3,1,0");
                s.cuts(Check.built("a+/a+"), "aaa", "0,0,2,0 -1,2,1,0 end 0,3,1,0");
                s.cuts(Check.built("ab*/b*c", "c"), "abbc", "0,0,3,0 1,3,1,0 end 0,4,0,0");
                s.cuts(Check.built("ab?/b|c", "c"), "abc", "0,0,2,0 1,2,1,0 end 0,3,0,0");
                s.cuts(Check.built("a(bc)?/(bc|b)+", "[bc]+"), "abcbcb", "0,0,3,0 1,3,3,0 end 0,6,0,0");
                s.cuts(Check.built("(a|aba)/(b|bab)+", "b.*"), "abab", "0,0,3,0 1,3,1,0 end 0,4,0,0");
                // The token could end later, were it not for the rest.
                s.cuts(Check.built("a+b*/(ba|b)", ".+"), "abba", "0,0,2,0 1,2,2,0 end 0,4,0,0");
                s.cuts(Check.built("a.?/bc", ".+"), "abc", "0,0,1,0 1,1,2,0 end 0,3,0,0");
                s.cuts(Check.built("ab*/bb", "b+"), "abbb", "0,0,2,0 1,2,2,0 end 0,4,0,0");
                s.cuts(Check.built("(a|bc)/c+", "c+"), "acc", "0,0,1,0 1,1,2,0 end 0,3,0,0");
                s.cuts(Check.built("a(b|cb)?/(b|c)*d", ".+"), "acbd", "0,0,3,0 1,3,1,0 end 0,4,0,0");
            });
        s.sentence(15, "(it may be that nothing must, if that matches nothing)", () -> {
            s.cuts(Check.built("a/b?"), "a", "0,0,1,0 end 0,1,0,0");
            s.cuts(Check.built("a/b?"), "ab", "0,0,1,0 -1,1,1,0 end 0,2,1,0");
            s.cuts(Check.built("a+/a*"), "aaa", "0,0,3,0 end 0,3,0,0");
            s.cuts(Check.built("a(bb)*/b*"), "abbb", "0,0,3,0 -1,3,1,0 end 0,4,1,0");
            s.cuts(Check.built("ab/c*"), "abab", "0,0,2,0 0,2,2,0 end 0,4,0,0");
            LexerForge x = Check.built("a+/a*");
            s.same("a piece of 1000 bytes", 1, () -> Check.scan(x, "a".repeat(1000)));
            s.same("its token", "0,0,1000,0", () -> Sentences.facts(x, 0));
            s.same("the end behind it", "0,1000,0,0", () -> Sentences.ends(x));
        });
        s.sentence(15, "What stands ahead of a / is the token, what stands behind it must follow it in the text",
            () -> {
            s.cuts(Check.built("a/b", "a"), "a", "1,0,1,0 end 0,1,0,0");
            s.cuts(Check.built("a/b", "a"), "aab", "1,0,1,0 0,1,1,0 -1,2,1,0 end 0,3,1,0");
            s.cuts(Check.built("a/bc"), "ab", "-1,0,1,0 -1,1,1,0 end 0,2,2,0");
            s.cuts(Check.built("a/bc"), "abi", "-1,0,1,0 -1,1,1,0 -1,2,1,0 end 0,3,3,0");
            // The piece with what must follow is longer than that of the smaller rule.
            s.cuts(Check.built("ab", "a/bc", "bc"), "abc", "1,0,1,0 2,1,2,0 end 0,3,0,0");
            s.cuts(Check.built("abc", "a/bc"), "abc", "0,0,3,0 end 0,3,0,0");
            s.cuts(Check.built("a/bc", "abc", "bc"), "abc", "0,0,1,0 2,1,2,0 end 0,3,0,0");
            LexerForge x = Check.built("a+/b");
            s.same("a piece of 1000 bytes", 2, () -> Check.scan(x, "a".repeat(999) + "b"));
            s.same("its token", "0,0,999,0", () -> Sentences.facts(x, 0));
        });
    }

    private static void modes() {
        s.sentence(15, "A scan begins at the position 0 in mode 0.", () -> {
            LexerForge x = modesOfAAndB();
            s.cuts(x, "a", "0,0,1,0 end 1,1,0,0");
            s.cuts(x, "a", "0,0,1,0 end 1,1,0,0");
            s.cuts(x, "b", "-1,0,1,0 end 0,1,1,0");
            s.cuts(x, "", "end 0,0,0,0");
        });
        s.sentence(15, "The token is noted, if the rule's tokens are not left out, "
            + "and the mode becomes the next one of the rule; then it goes on behind the token.", () -> {
                LexerForge x = new LexerForge();
                Check.add(x, 0, 3, true, "a/b");
                Check.add(x, 3, 1, false, "b");
                Check.add(x, 1, 1, true, "c+");
                Check.add(x, 1, 2, false, "d");
                Check.add(x, 2, 0, true, "[a-h]");
                x.build();
                s.cuts(x, "abccdh", "1,1,1,3 3,4,1,1 end 0,6,0,3");
                s.cuts(x, "abdaab", "1,1,1,3 3,2,1,1 1,5,1,3 end 1,6,0,3");
                s.cuts(x, "abdd", "1,1,1,3 3,2,1,1 end 0,4,0,2");
                LexerForge y = new LexerForge();
                Check.add(y, 0, 3, false, "a");
                Check.add(y, 0, 0, false, "b");
                y.build();
                s.cuts(y, "bab", "1,0,1,0 0,1,1,0 -1,2,1,3 end 3,3,1,0");
            });
    }

    // ---- promise 15: the end of a scan

    private static void limit() {
        s.sentence(15, "At most 500 tokens are noted; the scan ends when one more would be, or at the end of the text.",
            ScanningBoundaryTest::fiveHundred);
    }

    private static void ends(LexerForge x, String what, String text, int tokens, String ends) {
        s.same("tokens of " + what, tokens, () -> Check.scan(x, text));
        s.same("the count of " + what, tokens, () -> x.count(2));
        s.same("the end of " + what, ends, () -> Sentences.ends(x));
        s.same("the tape behind " + what, 0, () -> x.count(1));
    }

    /** Tokens of an a, in modes 0 and 1; b's that are left out, in modes 0 and 2; and cc with a c behind it. */
    private static LexerForge rulesForLimit() {
        LexerForge x = new LexerForge();
        Check.add(x, 0, 1, false, "a");
        Check.add(x, 1, 0, false, "a");
        Check.add(x, 0, 2, true, "b");
        Check.add(x, 2, 0, true, "b");
        Check.add(x, 0, 3, false, "cc/c");
        x.build();
        return x;
    }

    private static void limitOf(String what, String text, int tokens, String ends) {
        ends(rulesForLimit(), what, text, tokens, ends);
    }

    private static void fiveHundred() {
        limitOf("none", "", 0, "0,0,0,0");
        limitOf("499", "a".repeat(499), 499, "1,499,0,0");
        limitOf("500", "a".repeat(500), 500, "0,500,0,0");
        limitOf("501", "a".repeat(501), 500, "0,500,0,0");
        limitOf("1000", "a".repeat(1000), 500, "0,500,0,0");
        limitOf("499 and a byte", "a".repeat(499) + "i", 500, "1,500,1,0");
        limitOf("500 and a byte", "a".repeat(500) + "i", 500, "0,500,0,0");
        limitOf("500 and a longer one", "a".repeat(500) + "ccc", 500, "0,500,0,0");
        limitOf("498 and a longer one", "a".repeat(498) + "cccc", 500, "3,501,1,0");
        limitOf("500 and one left out", "a".repeat(500) + "b", 500, "2,501,0,1");
        limitOf("500 and 500 left out", "a".repeat(500) + "b".repeat(500), 500, "0,1000,0,500");
        limitOf("500, two left out and one more", "a".repeat(500) + "bba", 500, "0,502,0,2");
        limitOf("500, three left out and a byte", "a".repeat(500) + "bbbi", 500, "2,503,0,3");
        limitOf("1000 left out", "b".repeat(1000), 0, "0,1000,0,1000");
        LexerForge x = rulesForLimit();
        ends(x, "1000 bytes that are not met", "i".repeat(1000), 500, "0,500,500,0");
        s.same("the last token", "-1,499,1,0", () -> Sentences.facts(x, 499));
        s.badIndex("no token 500", () -> x.token(500, 0));
    }

    // ---- promise 15: the call

    private static void scan() {
        s.sentence(15, "Scans the tape with the machines and rules of the latest build().", () -> {
            LexerForge x = Check.built("a+");
            Check.add(x, 0, 1, false, "b");
            s.cuts(x, "aab", "0,0,2,0 -1,2,1,0 end 0,3,1,0");
            Check.add(x, 0, 0, false, "[ab]*a[ab][ab][ab][ab][ab][ab]");
            s.badState("a build that throws", () -> x.build());
            s.cuts(x, "aab", "0,0,2,0 -1,2,1,0 end 0,3,1,0");
            LexerForge y = Check.built("a+");
            Check.add(y, 0, 1, false, "b");
            y.build();
            s.cuts(y, "aab", "0,0,2,0 1,2,1,0 end 1,3,0,0");
            LexerForge z = new LexerForge();
            z.build();
            Check.add(z, 0, 0, true, "a");
            s.cuts(z, "a", "-1,0,1,0 end 0,1,1,0");
        });
        s.sentence(15, "The tokens of the scan before are gone.", () -> {
            LexerForge x = Check.built("a");
            s.cuts(x, "aai", "0,0,1,0 0,1,1,0 -1,2,1,0 end 0,3,1,0");
            s.cuts(x, "i", "-1,0,1,0 end 0,1,1,0");
            s.same("one token", 1, () -> x.count(2));
            s.badIndex("token 1", () -> x.token(1, 0));
            s.same("none", 0, () -> x.scan());
            s.badIndex("token 0", () -> x.token(0, 0));
            s.same("mean length of none", 0.0, () -> x.meanLength());
        });
        s.sentence(15, "Returns the number of tokens that were noted.", () -> {
            LexerForge x = new LexerForge();
            Check.add(x, 0, 0, true, "a");
            Check.add(x, 0, 0, false, "b+");
            x.build();
            s.same("of an empty text", 0, () -> x.scan());
            s.same("of what is left out", 0, () -> Check.scan(x, "aaa"));
            s.same("of all", 3, () -> Check.scan(x, "abbaib"));
        });
        s.sentence(15, "addRule and scan read it, and it is empty behind each of them.", () -> {
            LexerForge x = Check.built("a");
            s.cuts(x, "aa", "0,0,1,0 0,1,1,0 end 0,2,0,0");
            s.same("no bytes", 0, () -> x.count(1));
            s.badArgument("trim to one", () -> x.trim(1));
            Check.scan(x, "a".repeat(1000));
            s.same("no bytes behind the limit", 0, () -> x.count(1));
            s.cuts(x, "i", "-1,0,1,0 end 0,1,1,0");
        });
        s.sentence(15, "if there was no build() yet", () -> {
            LexerForge x = new LexerForge();
            s.badState("a new one", () -> x.scan());
            Check.add(x, 0, 0, false, "a");
            s.badState("with a rule", () -> x.scan());
            Check.put(x, "a");
            s.badState("with a text", () -> x.scan());
            s.same("the text stays", 1, () -> x.count(1));
            x.trim(0);
            Check.add(x, 0, 0, false, "[ab]*a[ab][ab][ab][ab][ab][ab]");
            s.badState("a build that throws", () -> x.build());
            s.badState("behind a build that throws", () -> x.scan());
            LexerForge y = new LexerForge();
            y.build();
            s.same("behind a build without rules", 0, () -> y.scan());
        });
    }

    // ---- promise 16

    private static void tokens() {
        s.sentence(16, "All positions are counted from 0, in bytes.", () -> {
            LexerForge x = Check.built("a+");
            s.cuts(x, "\u00ff\u0080aa\u0000a", "-1,0,1,0 -1,1,1,0 0,2,2,0 -1,4,1,0 0,5,1,0 end 0,6,3,0");
        });
        s.sentence(16, "0 its rule, 1 its position, 2 its length, 3 the mode in which it was met", () -> {
            LexerForge x = new LexerForge();
            Check.add(x, 0, 3, false, "ab");
            Check.add(x, 3, 0, false, "ccc");
            x.build();
            s.cuts(x, "iabccc!", "-1,0,1,0 0,1,2,0 1,3,3,3 -1,6,1,0 end 0,7,2,0");
            s.cuts(x, "abi", "0,0,2,0 -1,2,1,3 end 3,3,1,0");
        });
        s.sentence(16, "if there is no such token, or what is not 0 to 3", () -> {
            LexerForge none = new LexerForge();
            s.badIndex("ahead of a scan", () -> none.token(0, 0));
            LexerForge x = Sentences.busy();
            for (int bad : new int[] {-1, 2, 499, 500, MIN, MAX}) {
                s.badIndex("token " + bad, () -> x.token(bad, 0));
            }
            for (int bad : new int[] {-1, 4, MIN, MAX}) {
                s.badIndex("what " + bad, () -> x.token(0, bad));
                s.badIndex("what of the last one " + bad, () -> x.token(1, bad));
                s.badIndex("both, what " + bad, () -> x.token(2, bad));
            }
            s.same("the first", 0, () -> x.token(0, 0));
            s.same("the last", 0, () -> x.token(1, 3));
            LexerForge full = Check.built("a");
            Check.scan(full, "a".repeat(600));
            s.same("token 499", 499, () -> full.token(499, 1));
            s.badIndex("token 500", () -> full.token(500, 1));
            s.badIndex("token -1", () -> full.token(-1, 1));
        });
    }

    // ---- promise 17

    private static void scanned() {
        s.sentence(17, "0 the mode at the end of the latest scan, 1 the position there", () -> {
            LexerForge x = modesOfAAndB();
            ends(x, "a", "a", 1, "1,1,0,0");
            ends(x, "ab", "ab", 2, "0,2,0,0");
            ends(x, "an empty text", "", 0, "0,0,0,0");
            ends(x, "1000 bytes", "ab".repeat(500), 500, "0,500,0,0");
            ends(x, "two bytes behind it", "ba", 2, "1,2,1,0");
            LexerForge all = Check.built("a+");
            ends(all, "all bytes", "a".repeat(1000), 1, "0,1000,0,0");
        });
        s.sentence(17, "2 how many bytes were noted with the rule -1, 3 how many tokens were left out", () -> {
            LexerForge x = new LexerForge();
            Check.add(x, 0, 0, true, "a+");
            Check.add(x, 0, 0, false, "b+");
            x.build();
            ends(x, "of none", "bb", 1, "0,2,0,0");
            ends(x, "of both", "aaibbiiab", 5, "0,9,3,2");
            ends(x, "left out alone", "aaa", 0, "0,3,0,1");
            ends(x, "not met alone", "iii", 3, "0,3,3,0");
            ends(x, "an empty text", "", 0, "0,0,0,0");
            ends(x, "1000 that are not met", "i".repeat(1000), 500, "0,500,500,0");
        });
        s.sentence(17, "(0, if there was none)", () -> {
            LexerForge x = new LexerForge();
            s.same("a new one", "0,0,0,0", () -> Sentences.ends(x));
            Check.add(x, 0, 0, false, "a");
            x.build();
            Check.put(x, "ab");
            s.same("behind build", "0,0,0,0", () -> Sentences.ends(x));
            LexerForge y = new LexerForge();
            Check.put(y, "ab");
            s.badState("a scan that throws", () -> y.scan());
            s.same("behind a scan that throws", "0,0,0,0", () -> Sentences.ends(y));
        });
        s.sentence(17, "if what is not 0 to 3", () -> {
            for (LexerForge x : new LexerForge[] {new LexerForge(), Sentences.busy()}) {
                for (int bad : new int[] {-1, 4, MIN, MAX}) {
                    s.badIndex("what " + bad, () -> x.scanned(bad));
                }
            }
            LexerForge y = Sentences.busy();
            s.same("what 0 to 3", "0,4,1,1", () -> Sentences.ends(y));
        });
    }

    // ---- promise 18

    private static void meanLength() {
        s.sentence(18, "Returns the mean length of all tokens that were noted by the latest scan; 0 if there are none.",
            () -> {
                LexerForge x = new LexerForge();
                Check.add(x, 0, 0, false, "a+");
                Check.add(x, 0, 0, true, "b+");
                Check.add(x, 0, 0, false, "c/b*");
                s.same("of a new one", 0.0, () -> x.meanLength());
                x.build();
                s.same("behind build", 0.0, () -> x.meanLength());
                mean(x, "aaa", 3.0);
                mean(x, "aai", 1.5);
                mean(x, "aabbbaii", 1.25);
                mean(x, "aaica", 1.25);
                mean(x, "aacibbb", 4.0 / 3);
                mean(x, "cbbb", 1.0);
                mean(x, "bbb", 0.0);
                mean(x, "aa", 2.0);
                mean(x, "", 0.0);
                mean(x, "a".repeat(1000), 1000.0);
                mean(x, "a".repeat(501) + "i".repeat(499), 2.0);
                mean(x, "i".repeat(499) + "a".repeat(501), 2.0);
                mean(x, "i".repeat(500) + "a".repeat(500), 1.0);
                mean(x, "aai".repeat(333), 1.5);
            });
    }

    private static void mean(LexerForge x, String text, double due) {
        Check.scan(x, text);
        s.same("of " + text, due, () -> x.meanLength());
    }

    // ---- promise 19

    /** What the document names for the checksum, in its order, from the other calls. */
    private static List<Integer> numbers(LexerForge x) {
        List<Integer> all = new ArrayList<>();
        for (int what = 0; what < 3; what++) {
            all.add(x.count(what));
        }
        for (int rule = 0; rule < all.get(0); rule++) {
            for (int what = 0; what < 6; what++) {
                all.add(x.rule(rule, what));
            }
        }
        for (int mode = 0; mode < 4; mode++) {
            int states = x.states(mode);
            all.add(states);
            for (int state = 0; state < states; state++) {
                all.add(x.answer(mode, state));
                for (int letter = 0; letter < 8; letter++) {
                    all.add(x.next(mode, state, letter));
                }
            }
        }
        for (int token = 0; token < all.get(2); token++) {
            for (int what = 0; what < 4; what++) {
                all.add(x.token(token, what));
            }
        }
        for (int what = 0; what < 4; what++) {
            all.add(x.scanned(what));
        }
        return all;
    }

    /** The checksum by numbers without an end, of which the lowest 64 bits are taken at last. */
    private static long checksum(List<Integer> numbers) {
        BigInteger d = BigInteger.valueOf(383);
        for (int x : numbers) {
            d = d.multiply(BigInteger.valueOf(31)).add(BigInteger.valueOf(x));
        }
        return d.longValue();
    }

    private static void digestIsDue(String what, LexerForge x) {
        long due = checksum(numbers(x));
        s.same("of " + what, due, () -> x.digest());
        s.same("again of " + what, due, () -> x.digest());
    }

    private static void digest() {
        s.sentence(19, "A number d starts with 383; for each of the following numbers x, d becomes d * 31 + x, "
            + "which wraps around as a 64-bit integer", () -> {
                // 383 and eleven numbers that are 0: 9731446651323050273, which is more than 63 bits hold.
                s.same("of a new one", -8715297422386501343L, () -> new LexerForge().digest());
                LexerForge x = new LexerForge();
                x.feed(0, 0, 0, 0, 0);
                // 20 * 31 to the power of 9 is added by the second one of the eleven numbers.
                s.same("of a new one with twenty bytes", -8715297422386501343L + 20 * 26439622160671L,
                    () -> x.digest());
            });
        s.sentence(19, "what count() tells, in its order; for each rule what rule() tells, in its order; "
            + "for each mode the number of its states, and for each of them its answer, and what next() tells, "
            + "letter by letter; for each token what token() tells, in its order; what scanned() tells, in its order.",
            ScanningBoundaryTest::digests);
    }

    private static void digests() {
        LexerForge x = new LexerForge();
        digestIsDue("a new one", x);
        Check.put(x, "abc");
        digestIsDue("a tape", x);
        x.trim(0);
        Check.add(x, 2, 1, true, "ab/c|d");
        digestIsDue("one rule", x);
        Check.add(x, 0, 2, false, "ab+");
        x.build();
        digestIsDue("machines", x);
        LexerForge y = Sentences.busy();
        digestIsDue("all", y);
        LexerForge z = new LexerForge();
        for (int rule = 0; rule < 12; rule++) {
            Check.add(z, rule & 3, 3 - (rule & 3), rule > 8, String.valueOf((char) ('a' + rule % 8)) + "[b-a]?");
        }
        z.build();
        Check.scan(z, "ahbgibbcc");
        digestIsDue("twelve rules", z);
        LexerForge full = new LexerForge();
        full.build();
        Check.scan(full, "i".repeat(1000));
        List<Integer> due = new ArrayList<>(List.of(0, 0, 500, 0, 0, 0, 0));
        for (int token = 0; token < 500; token++) {
            due.addAll(List.of(-1, token, 1, 0));
        }
        due.addAll(List.of(0, 500, 500, 0));
        s.same("of five hundred tokens", checksum(due), () -> full.digest());
        LexerForge great = Check.built("(aaaaaaaaa)+", "(aaaaaaaaaaa)+");
        s.same("of a hundred states", checksum(hundredStates()), () -> great.digest());
    }

    /** What is told by a maker with the multiples of nine and of eleven a's in mode 0. */
    private static List<Integer> hundredStates() {
        List<Integer> told = new ArrayList<>(List.of(2, 0, 0, 0, 0, 0, 0, 9, 1, 0, 0, 0, 0, 11, 1, 100));
        for (int a = 0; a < 100; a++) {
            told.add(a > 0 && a % 9 == 0 ? 0 : a > 0 && a % 11 == 0 ? 1 : -1);
            told.add(a < 99 ? a + 1 : 1);
            told.addAll(List.of(-1, -1, -1, -1, -1, -1, -1));
        }
        told.addAll(List.of(0, 0, 0, 0, 0, 0, 0));
        return told;
    }

    // ---- what holds for each method that throws

    private static void throwing() {
        String nothing = "A method that throws an exception changes nothing.";
        s.sentence(15, nothing, () -> {
            LexerForge x = new LexerForge();
            Check.add(x, 0, 0, false, "a");
            Check.add(x, 0, 0, false, "ab)");
            Check.put(x, "aa");
            s.throwsAndKeepsAll("scan ahead of build", STATE, x, o -> o.scan());
            s.same("the error", 2, () -> x.errorAt());
            x.build();
            s.cuts(x, "", "0,0,1,0 0,1,1,0 end 0,2,0,0");
        });
        s.sentence(16, nothing, () -> {
            s.throwsAndChangesNothing("no such token", INDEX, o -> o.token(2, 0));
            s.throwsAndChangesNothing("no such what", INDEX, o -> o.token(0, 4));
        });
        s.sentence(17, nothing, () -> s.throwsAndChangesNothing("no such what", INDEX, o -> o.scanned(4)));
    }
}
