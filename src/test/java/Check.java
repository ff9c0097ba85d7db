/** What the tests share: counting what is wrong, and bringing texts onto a tape. */
final class Check {
    interface Call {
        Object answer();
    }

    private final String test;
    private String about = "";
    private int looked;
    private int wrong;

    Check(String test) {
        this.test = test;
    }

    /** What a call answers, as text; the exception's name behind throws., if it throws one. */
    static String told(Call call) {
        try {
            return String.valueOf(call.answer());
        } catch (RuntimeException e) {
            return "throws." + e.getClass().getSimpleName();
        }
    }

    void same(String what, Object due, Call call) {
        String got = told(call);
        looked++;
        if (!got.equals(String.valueOf(due))) {
            wrong++;
            System.out.println(test + ": " + about + what + " answered " + got + ", due is " + due);
        }
    }

    void badIndex(String what, Call call) {
        same(what, "throws.IndexOutOfBoundsException", call);
    }

    void badArgument(String what, Call call) {
        same(what, "throws.IllegalArgumentException", call);
    }

    void badState(String what, Call call) {
        same(what, "throws.IllegalStateException", call);
    }

    boolean hasFailed() {
        return wrong > 0;
    }

    int looked() {
        return looked;
    }

    /** Sets what is told ahead of each answer that is wrong. */
    void tellAbout(String words) {
        about = words;
    }

    void end() {
        System.out.println(test + ": " + looked + " answers looked at, " + wrong + " wrong");
        if (wrong > 0) {
            System.exit(1);
        }
    }

    /** Appends a text to the tape. */
    static void put(LexerForge forge, String text) {
        int size = forge.count(1);
        for (int i = 0; i < text.length(); i += 20) {
            forge.feed(four(text, i), four(text, i + 4), four(text, i + 8), four(text, i + 12), four(text, i + 16));
        }
        forge.trim(size + text.length());
    }

    static int add(LexerForge forge, int mode, int next, boolean isLeftOut, String pattern) {
        put(forge, pattern);
        return forge.addRule(mode, next, isLeftOut);
    }

    static int scan(LexerForge forge, String text) {
        put(forge, text);
        return forge.scan();
    }

    /** A maker with rules of mode 0 that stay in it, and machines about them. */
    static LexerForge built(String... patterns) {
        LexerForge forge = new LexerForge();
        for (String pattern : patterns) {
            if (add(forge, 0, 0, false, pattern) != 0) {
                throw new IllegalArgumentException("not a pattern: " + pattern);
            }
        }
        forge.build();
        return forge;
    }

    static int four(String text, int from) {
        int number = 0;
        for (int i = from; i < from + 4; i++) {
            number = number << 8 | (i < text.length() ? text.charAt(i) : ' ');
        }
        return number;
    }
}
