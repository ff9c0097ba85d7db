import java.io.IOException;
import java.nio.file.Files;
import java.nio.file.Path;
import java.util.HashSet;
import java.util.Set;
import java.util.function.Function;

/**
 * Tests of single sentences of the document: each one names its promise and the sentence, which must stand in the
 * document, under that promise or ahead of all of them.
 */
final class Sentences {
    static final int MIN = Integer.MIN_VALUE;
    static final int MAX = Integer.MAX_VALUE;
    private static final Path DOCUMENT = Path.of("../shared/DOC.md");

    private final String test;
    private final Check check;
    private final String document;
    private final Set<String> named = new HashSet<>();
    private final Set<Integer> promises = new HashSet<>();

    Sentences(String test) {
        this.test = test;
        check = new Check(test);
        document = read();
    }

    /** Null without the document: then it can't be looked whether the sentences stand in it. */
    private static String read() {
        try {
            return Files.exists(DOCUMENT) ? Files.readString(DOCUMENT) : null;
        } catch (IOException e) {
            return null;
        }
    }

    /** Runs the test of a sentence. */
    void sentence(int promise, String words, Runnable body) {
        check.tellAbout("promise " + promise + ", \"" + words + "\": ");
        check.same("named once", true, () -> named.add(promise + " " + words));
        check.same("stands in the document", true, () -> isInDocument(promise, words));
        promises.add(promise);
        int before = check.looked();
        body.run();
        int after = check.looked();
        check.same("has a test", true, () -> after > before);
        check.tellAbout("");
    }

    private boolean isInDocument(int promise, String words) {
        if (document == null) {
            return true;
        }
        String own = document.split("\n## Promise " + promise + ": ", 2)[1].split("\n## ", 2)[0];
        String shared = document.split("\n## Promise 1: ", 2)[0];
        return own.contains(words) || shared.contains(words);
    }

    void end(int firstPromise, int lastPromise) {
        for (int n = firstPromise; n <= lastPromise; n++) {
            int promise = n;
            check.same("promise " + n + " has a sentence", true, () -> promises.contains(promise));
        }
        System.out.println(test + ": " + named.size() + " sentences"
            + (document == null ? ", not looked for in the document, which is not there" : ""));
        check.end();
    }

    // ---- what the tests of sentences share

    void same(String what, Object due, Check.Call call) {
        check.same(what, due, call);
    }

    void badIndex(String what, Check.Call call) {
        check.badIndex(what, call);
    }

    void badArgument(String what, Check.Call call) {
        check.badArgument(what, call);
    }

    void badState(String what, Check.Call call) {
        check.badState(what, call);
    }

    /** A pattern that has an error. */
    void fails(String pattern, int error, int at) {
        LexerForge x = new LexerForge();
        same("the error of " + pattern, error, () -> Check.add(x, 0, 0, false, pattern));
        same("the place of the error of " + pattern, at, () -> x.errorAt());
        same("the rules behind " + pattern, 0, () -> x.count(0));
    }

    /** A pattern that has none. */
    void stands(String pattern) {
        LexerForge x = new LexerForge();
        same("the error of " + pattern, 0, () -> Check.add(x, 0, 0, false, pattern));
        same("the place of no error of " + pattern, -1, () -> x.errorAt());
        same("the rules behind " + pattern, 1, () -> x.count(0));
    }

    /** How many words of the lengths 0, 1, 2 and so on a pattern matches. */
    void matches(String pattern, long... due) {
        LexerForge x = Check.built(pattern);
        for (int n = 0; n < due.length; n++) {
            int length = n;
            same("words of " + pattern + " of length " + n, due[n], () -> x.words(0, length));
        }
    }

    /** The tokens of the text, each one's rule, position, length and mode, and behind them what scanned() tells. */
    void cuts(LexerForge x, String text, String due) {
        same("the cut of " + text, due, () -> cut(x, text));
    }

    private static String cut(LexerForge x, String text) {
        StringBuilder all = new StringBuilder();
        int tokens = Check.scan(x, text);
        for (int t = 0; t < tokens; t++) {
            all.append(facts(x, t)).append(' ');
        }
        return all.append("end ").append(ends(x)).toString();
    }

    static String facts(LexerForge x, int token) {
        return x.token(token, 0) + "," + x.token(token, 1) + "," + x.token(token, 2) + "," + x.token(token, 3);
    }

    static String ends(LexerForge x) {
        return x.scanned(0) + "," + x.scanned(1) + "," + x.scanned(2) + "," + x.scanned(3);
    }

    /** All that calls tell that change nothing themselves, but for what is on the tape. */
    static String all(LexerForge x) {
        StringBuilder told = new StringBuilder();
        told.append(x.digest()).append(' ').append(x.errorAt()).append(' ').append(x.meanLength());
        for (int rule = 0; rule < x.count(0); rule++) {
            told.append(' ').append(x.isMet(rule)).append(x.words(rule, 1)).append(x.shortest(rule, 0));
        }
        return told.toString();
    }

    /**
     * A maker in the midst of its work: rules in modes 0, 1 and 3 with machines, one rule behind the latest build(),
     * two tokens and one left out, an error at 1, and "aab" on the tape.
     */
    static LexerForge busy() {
        LexerForge x = new LexerForge();
        Check.add(x, 0, 1, false, "a+/b");
        Check.add(x, 1, 0, true, "b");
        Check.add(x, 3, 2, false, "c|d");
        x.build();
        Check.scan(x, "aabi");
        Check.add(x, 0, 0, false, "ac");
        Check.add(x, 0, 0, false, "a)");
        Check.put(x, "aab");
        return x;
    }

    /** The call throws on a busy maker, and all of it is as it was, its tape too. */
    void throwsAndChangesNothing(String what, String exception, Function<LexerForge, Object> call) {
        LexerForge x = busy();
        throwsAndKeepsAll(what, exception, x, call);
        same("the tape behind " + what, "0,0,2,0 end 0,3,0,1", () -> cut(x, ""));
    }

    void throwsAndKeepsAll(String what, String exception, LexerForge x, Function<LexerForge, Object> call) {
        String before = all(x);
        same(what, "throws." + exception, () -> call.apply(x));
        same("all behind " + what, before, () -> all(x));
    }
}
