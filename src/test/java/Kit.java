import java.util.concurrent.Callable;

/** What all tests of the project use: answers are compared, texts are fed, wrong ones are printed. */
final class Kit {
    /** What Kit.answer gives for a call that throws. */
    static final String BOUNDS = "IndexOutOfBoundsException";
    static final String ARGUMENT = "IllegalArgumentException";
    static final String ELEMENT = "NoSuchElementException";
    static final String UNSUPPORTED = "UnsupportedOperationException";

    private static int wrong = 0;
    private static int checks = 0;
    private static String sentence = null;
    private static int checksAhead = 0;

    private Kit() {
    }

    /** What a call answers, or the simple name of what it throws. */
    static String answer(Callable<?> call) {
        try {
            return String.valueOf(call.call());
        } catch (Exception e) {
            return e.getClass().getSimpleName();
        }
    }

    static void due(String what, Object want, Callable<?> call) {
        checks++;
        String got = answer(call);
        if (!got.equals(String.valueOf(want))) {
            tellWrong(what + " answered " + got + ", due is " + want);
        }
    }

    private static void tellWrong(String what) {
        wrong++;
        System.out.println((sentence == null ? "" : "\"" + sentence + "\": ") + what);
    }

    /** A sentence of the document, word for word: the checks behind it, one at least, are its test. */
    static void sentence(String words) {
        closeSentence();
        sentence = words;
        checksAhead = checks;
    }

    private static void closeSentence() {
        if (sentence != null && checks == checksAhead) {
            tellWrong("has no check");
        }
    }

    static void same(String what, Object want, Object got) {
        due(what, want, () -> got);
    }

    /** Puts a text (of at most 400 bytes) on the tape, which must be empty. */
    static void feed(GlassCity x, String text) {
        int[] n = new int[5];
        for (int i = 0; i < text.length(); i += 20) {
            for (int j = 0; j < 20; j++) {
                int sign = i + j < text.length() ? text.charAt(i + j) : 0;
                n[j / 4] = n[j / 4] << 8 | sign;
            }
            if (x.feed(n[0], n[1], n[2], n[3], n[4]) == GlassCity.NONE) {
                throw new IllegalStateException("the tape is full");
            }
        }
        if (!x.end(text.length())) {
            throw new IllegalStateException("the tape has fewer");
        }
    }

    static String city(GlassCity x, String text) {
        feed(x, text);
        return answer(x::city);
    }

    static String shame(GlassCity x, String text) {
        feed(x, text);
        return answer(x::shame);
    }

    /** A new city with a text (several with | between them) that must be right. */
    static GlassCity of(String texts) {
        GlassCity x = new GlassCity();
        int n = 0;
        for (String text : texts.split("\\|")) {
            n++;
            same("text " + text, n, city(x, text));
        }
        return x;
    }

    static void wrongCity(String text, int fault) {
        GlassCity x = new GlassCity();
        same("city " + text, ARGUMENT, city(x, text));
        due("fault of " + text, fault, x::fault);
    }

    static void wrongShame(String text, int fault) {
        GlassCity x = new GlassCity();
        same("shame " + text, ARGUMENT, shame(x, text));
        due("fault of " + text, fault, x::fault);
    }

    /** Blows that run to no other pane, if no heats beside one another are off by 100; RUN is 100 then. */
    static void crack(GlassCity x, int pane, int times) {
        x.runs(100);
        for (int i = 0; i < times; i++) {
            x.blow(pane, 999);
        }
    }

    static int bits(int... panes) {
        int set = 0;
        for (int pane : panes) {
            set |= 1 << pane;
        }
        return set;
    }

    /** All that can be seen of a city without a change that stays, but for THE IMAGE. */
    static String state(GlassCity x) {
        StringBuilder all = new StringBuilder();
        for (int what = 0; what < 10; what++) {
            all.append(x.count(what)).append(' ');
        }
        int panes = x.count(0) * x.count(1);
        for (int pane = 0; pane < panes; pane++) {
            for (int what = 0; what < 7; what++) {
                all.append(x.pane(pane, what)).append(' ');
            }
            all.append(x.fined(pane, 0)).append(' ').append(x.seen(pane, 12)).append(' ');
        }
        for (int cart = 0; cart < x.count(2); cart++) {
            for (int what = 0; what < 5; what++) {
                all.append(x.cart(cart, what)).append(' ');
            }
        }
        for (int seer = 0; seer < x.count(5); seer++) {
            for (int pane = 0; pane < panes; pane++) {
                int much = x.offer(seer, pane, 0);
                x.offer(seer, pane, much);
                all.append(much).append(' ');
            }
        }
        int run = x.runs(0);
        x.runs(run);
        return all.append(run).toString();
    }

    /** How many bytes the tape has: the greatest number at which it can end. */
    static int tapeLength(GlassCity x) {
        int length = 400;
        while (!x.end(length)) {
            length--;
        }
        return length;
    }

    static void finish(String name) {
        closeSentence();
        System.out.println(name + ": " + checks + " checks, " + wrong + " wrong");
        if (wrong != 0 || checks == 0) {
            System.exit(1);
        }
    }
}
