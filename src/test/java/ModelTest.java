import java.util.Random;

/** Long runs of made-up calls on an object and on the model; each answer must be the same. */
public final class ModelTest {
    private static final Check check = new Check("ModelTest");
    private static final int[] EDGES = {Integer.MIN_VALUE, -1, 0, 1, 2, 3, 4, 5, 6, 7, 8, 11, 12, 13, 18, 19, 99, 100,
        101, 499, 500, 501, 999, 1000, 1001, Integer.MAX_VALUE};

    private final Random random;
    private final int run;
    private final LexerForge forge = new LexerForge();
    private final Model model = new Model();
    private final String letters;
    private final int modes;
    private int calls;

    private ModelTest(int run) {
        this.run = run;
        random = new Random(run);
        String all = "abcdefgh";
        int from = random.nextInt(7);
        modes = 1 + random.nextInt(1 + random.nextInt(4));
        letters = random.nextInt(4) == 0 ? all : all.substring(from, Math.min(8, from + 1 + random.nextInt(3)));
    }

    public static void main(String[] args) {
        int runs = args.length > 0 ? Integer.parseInt(args[0]) : 600;
        int first = args.length > 1 ? Integer.parseInt(args[1]) : 1;
        for (int run = first; run < first + runs && !check.hasFailed(); run++) {
            new ModelTest(run).go();
        }
        check.end();
    }

    private void go() {
        boolean isFewRules = random.nextInt(3) == 0;
        while (calls < 460 && !check.hasFailed()) {
            int dice = random.nextInt(100);
            if (dice < 25) {
                addRule(isFewRules);
            } else if (dice < 40) {
                same("build()", () -> model.build(), () -> forge.build());
                lookAtMachines();
            } else if (dice < 60) {
                putText();
                same("scan()", () -> model.scan(), () -> forge.scan());
                lookAtTokens();
            } else if (dice < 63) {
                feedAnything();
            } else {
                lookAnywhere();
            }
            same("errorAt()", () -> model.errorAt(), () -> forge.errorAt());
        }
        same("digest()", () -> Digest.of(forge), () -> forge.digest());
    }

    private void same(String what, Check.Call due, Check.Call got) {
        calls++;
        check.same("run " + run + ": " + what, Check.told(due), got);
    }

    private int pick(int bound) {
        return random.nextInt(12) == 0 ? EDGES[random.nextInt(EDGES.length)] : random.nextInt(bound);
    }

    private void put(String text) {
        int size = forge.count(1);
        for (int i = 0; i < text.length(); i += 20) {
            int[] n = new int[5];
            for (int k = 0; k < 5; k++) {
                n[k] = Check.four(text, i + 4 * k);
            }
            same("feed()", () -> model.feed(n), () -> forge.feed(n[0], n[1], n[2], n[3], n[4]));
        }
        int all = size + text.length();
        same("trim(" + all + ")", () -> model.trim(all), () -> forge.trim(all));
    }

    private void feedAnything() {
        int[] n = random.ints(5).toArray();
        same("feed()", () -> model.feed(n), () -> forge.feed(n[0], n[1], n[2], n[3], n[4]));
        int to = pick(forge.count(1) + 2);
        same("trim(" + to + ")", () -> model.trim(to), () -> forge.trim(to));
    }

    private void addRule(boolean isFewRules) {
        if (isFewRules && forge.count(0) > 3 && random.nextInt(8) > 0) {
            return;
        }
        String pattern = pattern();
        put(pattern);
        int mode = random.nextInt(20) == 0 ? pick(4) : random.nextInt(modes);
        int next = random.nextInt(20) == 0 ? pick(4) : random.nextInt(modes);
        boolean isLeftOut = random.nextInt(4) == 0;
        same("addRule(" + mode + ", " + next + ", " + isLeftOut + ") of " + pattern,
            () -> model.addRule(mode, next, isLeftOut), () -> forge.addRule(mode, next, isLeftOut));
        same("errorAt() of " + pattern, () -> model.errorAt(), () -> forge.errorAt());
        int rule = forge.count(0) - 1;
        for (int w = 0; w < 6; w++) {
            int what = w;
            same("rule(" + rule + ", " + w + ") of " + pattern, () -> model.rule(rule, what),
                () -> forge.rule(rule, what));
        }
    }

    private String pattern() {
        int dice = random.nextInt(20);
        if (dice == 0) {
            return signs(1 + random.nextInt(45));
        }
        if (dice == 1) {
            return manySets();
        }
        int size = 1 + random.nextInt(dice < 4 ? 30 : dice < 12 ? 6 : 3);
        String text = either(size, random.nextInt(8) == 0 ? 7 : 3);
        if (random.nextInt(3) == 0) {
            text += "/" + either(1 + random.nextInt(size), 3);
        }
        if (random.nextInt(8) == 0) {
            int at = random.nextInt(text.length() + 1);
            text = text.substring(0, at) + signs(random.nextInt(2))
                + text.substring(Math.min(text.length(), at + random.nextInt(2)));
        }
        return text.length() > 60 ? text.substring(0, 60) : text;
    }

    /** Which letters were the last ones tells the sets apart, so there are many of them. */
    private String manySets() {
        char a = letter();
        char b = random.nextBoolean() ? (char) ('a' + random.nextInt(8)) : letter();
        String one = "[" + a + b + "]";
        return one + "*" + a + one.repeat(2 + random.nextInt(5)) + (random.nextInt(3) == 0 ? "/" + a : "");
    }

    private String signs(int length) {
        StringBuilder text = new StringBuilder();
        for (int i = 0; i < length; i++) {
            text.append("aabcdeh.[]()|*+?-/i\u0000\u00ff".charAt(random.nextInt(21)));
        }
        return text.toString();
    }

    private String either(int size, int depth) {
        int left = size > 1 && random.nextInt(3) == 0 ? 1 + random.nextInt(size - 1) : 0;
        return left == 0 ? row(size, depth) : either(left, depth) + "|" + either(size - left, depth);
    }

    private String row(int size, int depth) {
        StringBuilder text = new StringBuilder();
        for (int left = size; left > 0;) {
            int own = depth > 0 && random.nextInt(4) == 0 ? 1 + random.nextInt(left) : 1;
            boolean isGroup = own > 1 || depth > 0 && random.nextInt(10) == 0;
            text.append(isGroup ? "(" + either(own, depth - 1) + ")" : atom());
            text.append(random.nextInt(3) == 0 ? "*+?".charAt(random.nextInt(3)) : "");
            left -= own;
        }
        return text.toString().replace("\u0000", "");
    }

    private char letter() {
        return letters.charAt(random.nextInt(letters.length()));
    }

    private String atom() {
        int dice = random.nextInt(12);
        if (dice == 0) {
            return ".";
        }
        if (dice > 2) {
            return String.valueOf(letter());
        }
        StringBuilder text = new StringBuilder("[");
        for (int n = random.nextInt(3); n >= 0; n--) {
            text.append(letter());
            if (random.nextInt(3) == 0) {
                text.append('-').append(letter());
            }
        }
        return text.append(']').toString();
    }

    private void putText() {
        if (forge.count(1) > 300) {
            return;
        }
        StringBuilder text = new StringBuilder();
        int length = random.nextInt(30) == 0 ? 600 : random.nextInt(40);
        while (text.length() < length) {
            int dice = random.nextInt(20);
            if (dice > 3) {
                appendPiece(text, random.nextInt(modes), random.nextInt(8));
            } else {
                text.append(dice == 0 ? (char) random.nextInt(256) : letter());
            }
        }
        put(text.toString());
    }

    /** Appends letters that lead on in the machine of a mode. */
    private void appendPiece(StringBuilder text, int mode, int most) {
        int state = forge.states(mode) > 0 ? 0 : -1;
        for (int n = 0; n < most && state >= 0; n++) {
            int letter = random.nextInt(8);
            for (int tries = 0; tries < 8 && forge.next(mode, state, letter) < 0; tries++) {
                letter = (letter + 1) % 8;
            }
            state = forge.next(mode, state, letter);
            if (state >= 0) {
                text.append((char) ('a' + letter));
            }
        }
    }

    private void lookAtMachines() {
        for (int m = 0; m < 4; m++) {
            int mode = m;
            same("states(" + m + ")", () -> model.states(mode), () -> forge.states(mode));
            for (int s = 0; s < forge.states(m) && !check.hasFailed(); s++) {
                int state = s;
                check.same("run " + run + ": answer(" + m + ", " + s + ")", model.answer(m, s),
                    () -> forge.answer(mode, state));
                for (int l = 0; l < 8; l++) {
                    int letter = l;
                    check.same("run " + run + ": next(" + m + ", " + s + ", " + l + ")", model.next(m, s, l),
                        () -> forge.next(mode, state, letter));
                }
            }
        }
        for (int r = 0; r < forge.count(0); r++) {
            int rule = r;
            int length = random.nextInt(19);
            same("isMet(" + r + ")", () -> model.isMet(rule), () -> forge.isMet(rule));
            same("words(" + r + ", " + length + ")", () -> model.words(rule, length), () -> forge.words(rule, length));
            for (int i = 0; i <= 100; i++) {
                int index = i;
                check.same("run " + run + ": shortest(" + r + ", " + i + ")", model.shortest(r, i),
                    () -> forge.shortest(rule, index));
            }
        }
    }

    private void lookAtTokens() {
        for (int t = 0; t < forge.count(2); t++) {
            int token = t;
            for (int w = 0; w < 4; w++) {
                int what = w;
                check.same("run " + run + ": token(" + t + ", " + w + ")", model.token(t, w),
                    () -> forge.token(token, what));
            }
        }
        for (int w = 0; w < 4; w++) {
            int what = w;
            same("scanned(" + w + ")", () -> model.scanned(what), () -> forge.scanned(what));
        }
        same("meanLength()", () -> model.meanLength(), () -> forge.meanLength());
        same("digest()", () -> Digest.of(forge), () -> forge.digest());
    }

    private void lookAnywhere() {
        int a = pick(13);
        int b = pick(6);
        int c = pick(9);
        switch (random.nextInt(10)) {
            case 0:
                same("rule(" + a + ", " + b + ")", () -> model.rule(a, b), () -> forge.rule(a, b));
                return;
            case 1:
                same("count(" + b + ")", () -> model.count(b), () -> forge.count(b));
                return;
            case 2:
                same("states(" + b + ")", () -> model.states(b), () -> forge.states(b));
                return;
            case 3:
                same("next(" + b + ", " + a + ", " + c + ")", () -> model.next(b, a, c), () -> forge.next(b, a, c));
                return;
            case 4:
                same("answer(" + b + ", " + a + ")", () -> model.answer(b, a), () -> forge.answer(b, a));
                return;
            case 5:
                same("isMet(" + a + ")", () -> model.isMet(a), () -> forge.isMet(a));
                return;
            case 6:
                same("words(" + a + ", " + c + ")", () -> model.words(a, c), () -> forge.words(a, c));
                return;
            case 7:
                same("shortest(" + a + ", " + c + ")", () -> model.shortest(a, c), () -> forge.shortest(a, c));
                return;
            case 8:
                same("token(" + a + ", " + b + ")", () -> model.token(a, b), () -> forge.token(a, b));
                return;
            default:
                same("scanned(" + b + ")", () -> model.scanned(b), () -> forge.scanned(b));
        }
    }
}
