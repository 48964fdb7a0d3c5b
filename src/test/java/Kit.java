import java.util.concurrent.Callable;

/** What all tests of the project use: answers are compared, texts are fed, wrong ones are printed. */
final class Kit {
    /** What Kit.answer gives for a call that throws. */
    static final String BOUNDS = "IndexOutOfBoundsException";
    static final String ARGUMENT = "IllegalArgumentException";
    static final String ELEMENT = "NoSuchElementException";
    static final String UNSUPPORTED = "UnsupportedOperationException";

    private static int wrong = 0;
    private static int checks = 0;

    private Kit() {
    }

    /** What a call answers, or the simple name of what it throws. */
    static String answer(Callable<?> call) {
        try {
            return String.valueOf(call.call());
        } catch (Exception e) {
            return e.getClass().getSimpleName();
        }
    }

    static void due(String what, Object want, Callable<?> call) {
        checks++;
        String got = answer(call);
        if (!got.equals(String.valueOf(want))) {
            wrong++;
            System.out.println(what + " answered " + got + ", due is " + want);
        }
    }

    static void same(String what, Object want, Object got) {
        due(what, want, () -> got);
    }

    /** Puts a text (of at most 400 bytes) on the tape, which must be empty. */
    static void feed(GlassCity x, String text) {
        int[] n = new int[5];
        for (int i = 0; i < text.length(); i += 20) {
            for (int j = 0; j < 20; j++) {
                int sign = i + j < text.length() ? text.charAt(i + j) : 0;
                n[j / 4] = n[j / 4] << 8 | sign;
            }
            if (x.feed(n[0], n[1], n[2], n[3], n[4]) == GlassCity.NONE) {
                throw new IllegalStateException("the tape is full");
            }
        }
        if (!x.end(text.length())) {
            throw new IllegalStateException("the tape has fewer");
        }
    }

    static String city(GlassCity x, String text) {
        feed(x, text);
        return answer(x::city);
    }

    static String shame(GlassCity x, String text) {
        feed(x, text);
        return answer(x::shame);
    }

    /** A new city with a text (several with | between them) that must be right. */
    static GlassCity of(String texts) {
        GlassCity x = new GlassCity();
        int n = 0;
        for (String text : texts.split("\\|")) {
            n++;
            same("text " + text, n, city(x, text));
        }
        return x;
    }

    static void wrongCity(String text, int fault) {
        GlassCity x = new GlassCity();
        same("city " + text, ARGUMENT, city(x, text));
        due("fault of " + text, fault, x::fault);
    }

    static void wrongShame(String text, int fault) {
        GlassCity x = new GlassCity();
        same("shame " + text, ARGUMENT, shame(x, text));
        due("fault of " + text, fault, x::fault);
    }

    static void finish(String name) {
        System.out.println(name + ": " + checks + " checks, " + wrong + " wrong");
        if (wrong != 0 || checks == 0) {
            System.exit(1);
        }
    }
}
