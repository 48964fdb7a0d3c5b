import java.util.concurrent.Callable;

/** Promises 1 to 41, one behind another: what each call answers at its edges, and what it refuses. */
public final class EdgesOfCallsTest {
    private static final int LEAST = Integer.MIN_VALUE;
    private static final int GREATEST = Integer.MAX_VALUE;
    /** Numbers of panes, carts, seers, owners that are none in a city of 3 by 3 with few of all. */
    private static final int[] NO_PANE = {-1, 9, 29, 30, LEAST, GREATEST};
    private static final int[] NO_HOUR = {-1, 24, LEAST, GREATEST};
    private static final int[] NO_OWNER = {-1, 8, LEAST, GREATEST};

    public static void main(String[] args) {
        order();
        noSuch();
        newObject();
        tape();
        texts();
        faults();
        panesAndCarts();
        strewAndRuns();
        loadToBreaks();
        lightToFined();
        seersToLost();
        shareToStrengthen();
        spread();
        blowToTrace();
        paradeToHeaviest();
        frostAndOdds();
        mayToRounds();
        lampsToBack();
        counts();
        manyCalls();
        Kit.finish("EdgesOfCallsTest");
    }

    /** A city of 3 by 3 in which nothing is as at first. */
    private static GlassCity city() {
        GlassCity x = Kit.of("thick 0 0 7;cold 1 0 5;sand 2 0 30;owner 0 1 3;lamp 1 1 40;cart 20 2 1 5 to 9;cart 7 0 0 22 to 3 felt");
        Kit.same("a law", "2", Kit.shame(x, "show if owner > 2;fine 5"));
        x.seer();
        x.seer();
        x.offer(0, 8, 50);
        x.offer(1, 0, 9);
        x.runs(33);
        x.strew(4, 60);
        x.blow(3, 999);
        x.blow(3, 999);
        return x;
    }

    private static void refused(GlassCity x, String what, String exception, Callable<?> call) {
        String before = Kit.state(x);
        Kit.due(what, exception, call);
        Kit.same(what + " changes nothing", before, Kit.state(x));
    }

    private static void order() {
        Kit.sentence("Of several exceptions the one told first is thrown; a call that throws changes nothing but the TAPE, where it is used up.");
        GlassCity x = city();
        for (int none : NO_PANE) {
            refused(x, "pane " + none, Kit.BOUNDS, () -> x.pane(none, 7));
            refused(x, "cart " + none, Kit.BOUNDS, () -> x.cart(none, 5));
            refused(x, "strew " + none, Kit.BOUNDS, () -> x.strew(none, 101));
            refused(x, "holds " + none, Kit.BOUNDS, () -> x.holds(none, 12, 1000));
            refused(x, "light " + none, Kit.BOUNDS, () -> x.light(none, 12, 3));
            refused(x, "bill " + none, Kit.BOUNDS, () -> x.bill(none, 12, 1000));
            refused(x, "offer of seer " + none, Kit.BOUNDS, () -> x.offer(none, 0, 100));
            refused(x, "offer for " + none, Kit.BOUNDS, () -> x.offer(0, none, 100));
            refused(x, "share below " + none, Kit.BOUNDS, () -> x.share(none, 0, 10000));
            refused(x, "share of " + none, Kit.BOUNDS, () -> x.share(0, none, 10000));
            refused(x, "strengthen from " + none, Kit.BOUNDS, () -> x.strengthen(none, 0, 12, 1000));
            refused(x, "strengthen to " + none, Kit.BOUNDS, () -> x.strengthen(0, none, 12, 1000));
            refused(x, "blow on " + none, Kit.BOUNDS, () -> x.blow(none, 0));
            refused(x, "would on " + none, Kit.BOUNDS, () -> x.would(none, 0));
            refused(x, "parade from " + none, Kit.BOUNDS, () -> x.parade(none, 0, 12, 1000, -2));
            refused(x, "parade to " + none, Kit.BOUNDS, () -> x.parade(0, none, 12, 1000, -2));
        }
        for (int none : NO_HOUR) {
            refused(x, "holds at " + none, Kit.BOUNDS, () -> x.holds(0, none, 1000));
            refused(x, "light at " + none, Kit.BOUNDS, () -> x.light(0, none, 3));
            refused(x, "bill at " + none, Kit.BOUNDS, () -> x.bill(0, none, 1000));
            refused(x, "strengthen at " + none, Kit.BOUNDS, () -> x.strengthen(0, 1, none, 1000));
            refused(x, "parade at " + none, Kit.BOUNDS, () -> x.parade(0, 1, none, 1000, -2));
        }
        for (int n = x.count(3); n < 10; n++) {
            Kit.city(x, "");
        }
        Kit.feed(x, "size 0");
        refused(x, "a wrong text, and ten already", Kit.ARGUMENT, x::city);
        Kit.same("the tape is used up", 0, Kit.tapeLength(x));
        Kit.feed(x, "size 1 1");
        refused(x, "a right text, and ten already", Kit.UNSUPPORTED, x::city);
        Kit.same("the tape is used up", 0, Kit.tapeLength(x));
        Kit.feed(x, "hide;");
        refused(x, "a wrong law", Kit.ARGUMENT, x::shame);
        Kit.same("the tape is used up", 0, Kit.tapeLength(x));
        Kit.feed(x, "hide");
        Kit.due("no pane", Kit.BOUNDS, () -> x.pane(9, 0));
        Kit.same("another call does not use it up", 4, Kit.tapeLength(x));
    }

    private static void noSuch() {
        Kit.sentence("IndexOutOfBoundsException: there is no such PANE, CART, SEER, OWNER, hour.");
        GlassCity x = city();
        for (int none : NO_PANE) {
            refused(x, "pane " + none, Kit.BOUNDS, () -> x.pane(none, 0));
            refused(x, "strew " + none, Kit.BOUNDS, () -> x.strew(none, 1));
            refused(x, "load " + none, Kit.BOUNDS, () -> x.load(none, 1));
            refused(x, "holds " + none, Kit.BOUNDS, () -> x.holds(none, 1, 1));
            refused(x, "light " + none, Kit.BOUNDS, () -> x.light(none, 1, 1));
            refused(x, "seen " + none, Kit.BOUNDS, () -> x.seen(none, 1));
            refused(x, "fined " + none, Kit.BOUNDS, () -> x.fined(none, 1));
            refused(x, "offer " + none, Kit.BOUNDS, () -> x.offer(1, none, 1));
            refused(x, "share " + none, Kit.BOUNDS, () -> x.share(none, 1, 1));
            refused(x, "strengthen from " + none, Kit.BOUNDS, () -> x.strengthen(none, 1, 1, 1));
            refused(x, "strengthen to " + none, Kit.BOUNDS, () -> x.strengthen(1, none, 1, 1));
            refused(x, "blow " + none, Kit.BOUNDS, () -> x.blow(none, 999));
            refused(x, "would " + none, Kit.BOUNDS, () -> x.would(none, 999));
            refused(x, "parade from " + none, Kit.BOUNDS, () -> x.parade(none, 1, 1, 1, 1));
            refused(x, "parade to " + none, Kit.BOUNDS, () -> x.parade(1, none, 1, 1, 1));
            refused(x, "heaviest from " + none, Kit.BOUNDS, () -> x.heaviest(none, 1, 1));
            refused(x, "heaviest to " + none, Kit.BOUNDS, () -> x.heaviest(1, none, 1));
        }
        for (int none : new int[] {-1, 2, 11, 12, LEAST, GREATEST}) {
            refused(x, "cart " + none, Kit.BOUNDS, () -> x.cart(none, 0));
            refused(x, "offer of seer " + none, Kit.BOUNDS, () -> x.offer(none, 1, 1));
            refused(x, "lost by seer " + none, Kit.BOUNDS, () -> x.lost(12, none));
            if (none != -1) {
                refused(x, "sale to seer " + none, Kit.BOUNDS, () -> x.sale(12, none));
            }
        }
        refused(x, "sale to seer -2", Kit.BOUNDS, () -> x.sale(12, -2));
        for (int none : NO_OWNER) {
            refused(x, "bill of owner " + none, Kit.BOUNDS, () -> x.bill(none, 12, 1));
            refused(x, "share of owner " + none, Kit.BOUNDS, () -> x.share(1, none, 1));
        }
    }

    private static void newObject() {
        Kit.sentence("3 by 3 PANES as at first.");
        GlassCity x = new GlassCity();
        int[] pane = {4, 10, 0, 0, 0, 0, 160};
        for (int p = 0; p < 9; p++) {
            for (int what = 0; what < 7; what++) {
                int q = p;
                int w = what;
                Kit.due("pane " + p + ", " + what, pane[what], () -> x.pane(q, w));
            }
        }
        Kit.due("a 10th", Kit.BOUNDS, () -> x.pane(9, 0));
        Kit.due("objects have nothing in common", 9 * 160, () -> {
            GlassCity other = city();
            other.image();
            return new GlassCity().trace(0, 300, false);
        });
    }

    private static void tape() {
        Kit.sentence("Twenty bytes come behind the TAPE, of each number the highest first: how many it has;");
        GlassCity x = new GlassCity();
        Kit.due("the first twenty", 20, () -> x.feed(0x73697a65, 0x20362035, 0x3b6c616d, 0x70203520, 0x34203939));
        Kit.due("size 6 5;lamp 5 4 99", 1, x::city);
        Kit.due("the last byte came, too", 99, () -> x.pane(29, 5));
        Kit.due("anew from 0", 20, () -> x.feed(-1, LEAST, GREATEST, 0, 0x80808080));
        Kit.due("no letter, no blank", Kit.ARGUMENT, x::city);
        Kit.due("the first", 0, x::fault);
        Kit.sentence("NONE, and none come, if it would have more than 400.");
        for (int n = 20; n <= 400; n += 20) {
            Kit.due("to " + n, n, () -> x.feed(0x20202020, 0x20202020, 0x20202020, 0x20202020, 0x20202020));
        }
        Kit.due("to 420", -1, () -> x.feed(1, 1, 1, 1, 1));
        Kit.same("400 are there", 400, Kit.tapeLength(x));
        for (int n = 399; n > 380; n--) {
            int end = n;
            Kit.due("end " + n, true, () -> x.end(end));
            Kit.due("over 400 from " + n, -1, () -> x.feed(1, 1, 1, 1, 1));
            Kit.same("none came", end, Kit.tapeLength(x));
        }
        Kit.due("end 380", true, () -> x.end(380));
        Kit.due("400 again", 400, () -> x.feed(0x20202020, 0x20202020, 0x20202020, 0x20202020, 0x20202020));
        Kit.due("blanks alone, all of 400", 2, x::city);
        Kit.sentence("false, and nothing happens, if it has fewer, or n is below 0.");
        for (int none : new int[] {-1, 1, 400, LEAST, GREATEST}) {
            Kit.due("end " + none + " of 0", false, () -> x.end(none));
        }
        Kit.due("end 0 of 0", true, () -> x.end(0));
        Kit.feed(x, "size 2 2");
        for (int none : new int[] {-1, 9, 20, 401, LEAST, GREATEST}) {
            Kit.due("end " + none + " of 8", false, () -> x.end(none));
        }
        Kit.due("end 8 of 8", true, () -> x.end(8));
        Kit.due("nothing happened", 3, x::city);
        Kit.due("nothing happened", 2, () -> x.count(0));
    }

    private static void texts() {
        Kit.sentence("Uses the TAPE up: a text of THE CITY: how many there are.");
        GlassCity x = new GlassCity();
        Kit.due("nothing on the tape is a text", 1, x::city);
        Kit.feed(x, "size 2 2");
        Kit.due("a text", 2, x::city);
        Kit.same("used up", 0, Kit.tapeLength(x));
        Kit.due("so it is empty", 3, x::city);
        Kit.due("and nothing is as at first again", 2, () -> x.count(0));
        Kit.sentence("IllegalArgumentException: it is wrong; UnsupportedOperationException: there are 10.");
        Kit.feed(x, "size");
        refused(x, "wrong", Kit.ARGUMENT, x::city);
        for (int n = 4; n <= 10; n++) {
            Kit.due("text " + n, n, x::city);
        }
        refused(x, "an 11th, empty", Kit.UNSUPPORTED, x::city);
        Kit.feed(x, "size 4 4");
        refused(x, "an 11th", Kit.UNSUPPORTED, x::city);
        Kit.same("used up", 0, Kit.tapeLength(x));
        Kit.sentence("Uses the TAPE up: SHAME: how many LINES. IllegalArgumentException: the text is wrong.");
        Kit.feed(x, "hide;hide");
        Kit.due("behind ten texts of the city", 2, x::shame);
        Kit.same("used up", 0, Kit.tapeLength(x));
        Kit.due("so it is empty", 0, x::shame);
        for (int n = 0; n < 20; n++) {
            Kit.same("any number of laws", "1", Kit.shame(x, "hide"));
        }
        Kit.feed(x, "hide hide");
        refused(x, "wrong", Kit.ARGUMENT, x::shame);
        Kit.same("used up", 0, Kit.tapeLength(x));
    }

    private static void faults() {
        Kit.sentence("The first wrong byte of the latest text that was read; NONE without one, and ahead of any.");
        GlassCity x = new GlassCity();
        Kit.due("ahead of any", -1, x::fault);
        x.feed(0, 0, 0, 0, 0);
        Kit.due("a tape is no text yet", -1, x::fault);
        Kit.due("wrong at 0", Kit.ARGUMENT, x::city);
        Kit.due("0", 0, x::fault);
        Kit.due("told again", 0, x::fault);
        Kit.same("a right city", "1", Kit.city(x, ""));
        Kit.due("none", -1, x::fault);
        Kit.same("a wrong law", Kit.ARGUMENT, Kit.shame(x, "hide;"));
        Kit.due("5", 5, x::fault);
        Kit.same("a right law", "0", Kit.shame(x, ""));
        Kit.due("none", -1, x::fault);
        Kit.same("a wrong city of 400", Kit.ARGUMENT, Kit.city(x, " ".repeat(399) + ";"));
        Kit.due("399", 399, x::fault);
        Kit.same("a wrong law of 400", Kit.ARGUMENT, Kit.shame(x, "hide;" + " ".repeat(395)));
        Kit.due("400", 400, x::fault);
    }

    private static void panesAndCarts() {
        Kit.sentence("Of a PANE what 0 THICK, 1 HEAT, 2 SAND, 3 CRACKS, 4 OWNER, 5 LAMP, 6 BEARS. NoSuchElementException: another what.");
        GlassCity x = Kit.of("thick 2 2 5;cold 2 2 6;sand 2 2 7;owner 2 2 2;lamp 2 2 9;cart 11 1 2 13 to 14;cart 12 2 1 15 to 16 felt");
        Kit.crack(x, 8, 1);
        int[] pane = {5, -6, 7, 1, 2, 9, 214};
        for (int what = 0; what < 7; what++) {
            int w = what;
            Kit.due("what " + what, pane[what], () -> x.pane(8, w));
        }
        for (int none : new int[] {-1, 7, LEAST, GREATEST}) {
            refused(x, "what " + none, Kit.ELEMENT, () -> x.pane(8, none));
        }
        Kit.sentence("Of a CART what 0 WEIGHT, 1 PANE, 2 from, 3 to, 4 1 with FELT. NoSuchElementException: another what.");
        int[][] carts = {{11, 7, 13, 14, 0}, {12, 5, 15, 16, 1}};
        for (int what = 0; what < 5; what++) {
            int w = what;
            Kit.due("what " + what + " of 0", carts[0][what], () -> x.cart(0, w));
            Kit.due("what " + what + " of 1", carts[1][what], () -> x.cart(1, w));
        }
        for (int none : new int[] {-1, 5, LEAST, GREATEST}) {
            refused(x, "what " + none, Kit.ELEMENT, () -> x.cart(1, none));
        }
        Kit.same("a size", "2", Kit.city(x, "size 3 3"));
        Kit.due("a cart that is gone", Kit.BOUNDS, () -> x.cart(0, 0));
    }

    private static void strewAndRuns() {
        Kit.sentence("SAND is strewn (0 to 100): what it was. IllegalArgumentException: it is none.");
        GlassCity x = Kit.of("size 6 5;sand 5 4 99");
        Kit.due("what it was", 99, () -> x.strew(29, 100));
        Kit.due("100", 100, () -> x.strew(29, 0));
        Kit.due("0", 0, () -> x.strew(29, 0));
        for (int none : new int[] {-1, 101, LEAST, GREATEST}) {
            refused(x, "sand " + none, Kit.ARGUMENT, () -> x.strew(29, none));
        }
        Kit.sentence("RUN: what it was. IllegalArgumentException: it is none.");
        Kit.due("at first", 10, () -> x.runs(0));
        Kit.due("0", 0, () -> x.runs(100));
        for (int none : new int[] {-1, 101, LEAST, GREATEST}) {
            refused(x, "run " + none, Kit.ARGUMENT, () -> x.runs(none));
        }
        Kit.due("100", 100, () -> x.runs(10));
    }

    private static void loadToBreaks() {
        Kit.sentence("LOAD.");
        GlassCity loaded = Kit.of("size 6 5;cart 200 5 4 23 to 0;cart 1 5 4 0 to 0 felt");
        Kit.due("at 23", 400, () -> loaded.load(29, 23));
        Kit.due("at 0", 401, () -> loaded.load(29, 0));
        Kit.due("at 1", 0, () -> loaded.load(29, 1));
        Kit.due("none on the first", 0, () -> loaded.load(0, 0));
        Kit.sentence("HOLDS. IllegalArgumentException: more is not 0 to 999.");
        GlassCity x = Kit.of("size 6 5;thick 5 4 9;cart 200 0 0 23 to 0;cart 81 1 0 0 to 0");
        Kit.due("0", true, () -> x.holds(29, 0, 0));
        Kit.due("999", false, () -> x.holds(29, 0, 999));
        Kit.due("810", true, () -> x.holds(29, 0, 810));
        for (int none : new int[] {-1, 1000, LEAST, GREATEST}) {
            refused(x, "more " + none, Kit.ARGUMENT, () -> x.holds(29, 0, none));
        }
        Kit.sentence("PANES that do not HOLD at an hour, as bits.");
        Kit.due("at 0", 3, () -> x.breaks(0));
        Kit.due("at 23", 1, () -> x.breaks(23));
        Kit.due("at 1", 0, () -> x.breaks(1));
        for (int pane = 0; pane < 30; pane++) {
            Kit.crack(x, pane, 3);
        }
        Kit.due("all", 0x3fffffff, () -> x.breaks(1));
    }

    private static void lightToFined() {
        Kit.sentence("What 0 LET DOWN, 1 KEPT, 2 LIGHT below. NoSuchElementException: another what.");
        GlassCity x = Kit.of("size 6 5;lamp 5 4 5");
        int[] due = {66, 34, 71};
        for (int what = 0; what < 3; what++) {
            int w = what;
            Kit.due("what " + what, due[what], () -> x.light(29, 12, w));
        }
        for (int none : new int[] {-1, 3, LEAST, GREATEST}) {
            refused(x, "what " + none, Kit.ELEMENT, () -> x.light(29, 12, none));
        }
        Kit.sentence("BILL. IllegalArgumentException: the PRICE is not 0 to 999.");
        Kit.due("0", 0, () -> x.bill(0, 12, 0));
        Kit.due("1", 198, () -> x.bill(0, 12, 1));
        Kit.due("999", 197802, () -> x.bill(0, 12, 999));
        for (int none : new int[] {-1, 1000, LEAST, GREATEST}) {
            refused(x, "price " + none, Kit.ARGUMENT, () -> x.bill(0, 12, none));
        }
        Kit.sentence("SEEN.");
        Kit.due("at noon", true, () -> x.seen(29, 12));
        Kit.due("at night", false, () -> x.seen(29, 23));
        Kit.sentence("FINED.");
        Kit.shame(x, "fine 7 if light > 70");
        Kit.due("the last pane", 7, () -> x.fined(29, 12));
        Kit.due("another", 0, () -> x.fined(28, 12));
        Kit.due("at night", 0, () -> x.fined(29, 0));
    }

    private static void seersToLost() {
        Kit.sentence("A SEER: the number. UnsupportedOperationException: there are 6.");
        GlassCity x = new GlassCity();
        for (int n = 0; n < 6; n++) {
            Kit.due("seer", n, x::seer);
        }
        refused(x, "a 7th", Kit.UNSUPPORTED, x::seer);
        Kit.sentence("How much a SEER would pay for a PANE: what it was. IllegalArgumentException: it is none.");
        Kit.due("at first", 0, () -> x.offer(5, 8, 99));
        Kit.due("99", 99, () -> x.offer(5, 8, 0));
        Kit.due("0", 0, () -> x.offer(5, 8, 99));
        for (int none : new int[] {-1, 100, LEAST, GREATEST}) {
            refused(x, "offer " + none, Kit.ARGUMENT, () -> x.offer(5, 8, none));
        }
        Kit.sentence("SALE: all together (seer NONE), or the PANE of a SEER (NONE).");
        Kit.due("all together", 99, () -> x.sale(12, GlassCity.NONE));
        Kit.due("the pane", 8, () -> x.sale(12, 5));
        Kit.due("none", -1, () -> x.sale(12, 0));
        Kit.due("no seers: all together", 0, () -> new GlassCity().sale(12, GlassCity.NONE));
        Kit.due("no seers: one", Kit.BOUNDS, () -> new GlassCity().sale(12, 0));
        Kit.sentence("LOST by others.");
        Kit.due("nothing", 0, () -> x.lost(12, 5));
        x.offer(4, 8, 98);
        Kit.due("98", 98, () -> x.lost(12, 5));
        refused(x, "of all together there is none", Kit.BOUNDS, () -> x.lost(12, GlassCity.NONE));
    }

    private static void shareToStrengthen() {
        Kit.sentence("SHARE. IllegalArgumentException: the cost is none.");
        GlassCity x = city();
        Kit.due("0", 0, () -> x.share(8, 0, 0));
        Kit.due("9999", 9999, () -> x.share(8, 0, 9999));
        for (int none : new int[] {-1, 10000, LEAST, GREATEST}) {
            refused(x, "cost " + none, Kit.ARGUMENT, () -> x.share(8, 0, none));
        }
        Kit.sentence("WEAKEST.");
        Kit.due("two cracks count more than a load of 40", 3, () -> x.weakest(5));
        x.undo();
        Kit.due("one crack counts less", 5, () -> x.weakest(5));
        Kit.due("without the load", 3, () -> x.weakest(10));
        for (int none : NO_HOUR) {
            refused(x, "weakest at " + none, Kit.BOUNDS, () -> x.weakest(none));
        }
        Kit.sentence("STRENGTHENED, as bits; NONE. IllegalArgumentException: the WEIGHT is not 0 to 999.");
        Kit.due("0", 0, () -> x.strengthen(0, 8, 12, 0));
        Kit.due("999", -1, () -> x.strengthen(0, 8, 12, 999));
        for (int none : new int[] {-1, 1000, LEAST, GREATEST}) {
            refused(x, "weight " + none, Kit.ARGUMENT, () -> x.strengthen(0, 8, 12, none));
        }
    }

    private static void spread() {
        Kit.sentence("SPREAD; 0 for a K that cannot be.");
        GlassCity x = Kit.of("size 1 1;cold 0 0 40");
        for (int none : new int[] {-1, 2, 29, 30, 31, 32, LEAST, GREATEST}) {
            Kit.due("k " + none, 0, () -> x.spread(none));
        }
        Kit.due("k 1", 1000000000, () -> x.spread(1));
        Kit.due("k 0", 0, () -> x.spread(0));
    }

    private static void blowToTrace() {
        Kit.sentence("A BLOW: how many PANES got a CRACK. IllegalArgumentException: the FORCE is none.");
        GlassCity x = city();
        for (int none : new int[] {-1, 0, 1000, LEAST, GREATEST}) {
            refused(x, "blow of " + none, Kit.ARGUMENT, () -> x.blow(8, none));
        }
        Kit.due("1", 0, () -> x.blow(8, 1));
        Kit.due("999", 1, () -> x.blow(8, 999));
        Kit.sentence("What a BLOW would do: PANES that would get a CRACK, as bits. IllegalArgumentException likewise.");
        for (int none : new int[] {-1, 0, 1000, LEAST, GREATEST}) {
            refused(x, "would of " + none, Kit.ARGUMENT, () -> x.would(8, none));
        }
        String before = Kit.state(x);
        Kit.due("1", 0, () -> x.would(8, 1));
        Kit.due("999", 256, () -> x.would(8, 999));
        Kit.same("nothing changes", before, Kit.state(x));
        Kit.sentence("BACK: how many (first false), or the first: 1000 times the PANE and the FORCE (NONE). "
                + "IllegalArgumentException: the most is not 1 to 300.");
        for (int none : new int[] {-1, 0, 301, LEAST, GREATEST}) {
            refused(x, "most " + none, Kit.ARGUMENT, () -> x.trace(256, none, true));
            refused(x, "most " + none, Kit.ARGUMENT, () -> x.trace(256, none, false));
        }
        Kit.due("most 1: none", 0, () -> x.trace(256, 1, false));
        Kit.due("most 1: none", -1, () -> x.trace(256, 1, true));
        Kit.due("most 300", 170, () -> x.trace(256, 300, false));
        Kit.due("most 300", 8131, () -> x.trace(256, 300, true));
    }

    private static void paradeToHeaviest() {
        Kit.sentence("PARADE: how many hours (k NONE), or the PANE behind k hours (0 the first; NONE behind the end); NONE. "
                + "IllegalArgumentException: the WEIGHT is not 0 to 999, or k is below NONE.");
        GlassCity x = new GlassCity();
        Kit.due("hours", 4, () -> x.parade(0, 8, 12, 160, GlassCity.NONE));
        Kit.due("the first", 0, () -> x.parade(0, 8, 12, 160, 0));
        Kit.due("the last", 8, () -> x.parade(0, 8, 12, 160, 4));
        Kit.due("behind the end", -1, () -> x.parade(0, 8, 12, 160, 5));
        Kit.due("far behind the end", -1, () -> x.parade(0, 8, 12, 160, GREATEST));
        Kit.due("none", -1, () -> x.parade(0, 8, 12, 161, GlassCity.NONE));
        Kit.due("none, the first", -1, () -> x.parade(0, 8, 12, 161, 0));
        for (int none : new int[] {-1, 1000, LEAST, GREATEST}) {
            refused(x, "weight " + none, Kit.ARGUMENT, () -> x.parade(0, 8, 12, none, -1));
        }
        for (int none : new int[] {-2, LEAST}) {
            refused(x, "k " + none, Kit.ARGUMENT, () -> x.parade(0, 8, 12, 160, none));
            refused(x, "k " + none + " without a way", Kit.ARGUMENT, () -> x.parade(0, 8, 12, 161, none));
        }
        Kit.sentence("HEAVIEST; NONE.");
        Kit.due("160", 160, () -> x.heaviest(0, 8, 12));
        Kit.crack(x, 8, 3);
        Kit.due("none", -1, () -> x.heaviest(0, 8, 12));
    }

    private static void frostAndOdds() {
        Kit.sentence("FROST: how many got a CRACK. IllegalArgumentException: N is none.");
        GlassCity x = city();
        for (int none : new int[] {-1, 0, 61, LEAST, GREATEST}) {
            refused(x, "n " + none, Kit.ARGUMENT, () -> x.frost(1, none));
        }
        Kit.due("n 1 is an act", 1, () -> {
            int before = x.count(8);
            x.frost(5, 1);
            return x.count(8) - before;
        });
        GlassCity sure = Kit.of("size 1 1;cold 0 0 40");
        Kit.due("n 60", 1, () -> sure.frost(0, 60));
        Kit.sentence("ODDS.");
        Kit.due("a sure crack", 0, sure::odds);
        Kit.due("none at risk", 1000000000, () -> new GlassCity().odds());
        // cold 5 and THICK 4: 11 of 100
        Kit.due("one at risk", 890000000, x::odds);
        String before = Kit.state(x);
        x.odds();
        Kit.same("nothing changes", before, Kit.state(x));
    }

    private static void mayToRounds() {
        Kit.sentence("Whether a set may be closed at once.");
        GlassCity x = new GlassCity();
        Kit.due("none", true, () -> x.may(0));
        Kit.due("all", false, () -> x.may(511));
        Kit.due("the least int", true, () -> x.may(LEAST));
        Kit.due("the greatest int", false, () -> x.may(GREATEST));
        Kit.sentence("It is mended: how many CRACKS there were.");
        Kit.due("no round", 0, x::mend);
        Kit.crack(x, 4, 3);
        Kit.due("three", 3, x::mend);
        Kit.due("no cracks any more", 0, () -> x.count(6));
        Kit.due("none again", 0, x::mend);
        Kit.sentence("ROUND, as bits.");
        Kit.due("none", 0, x::round);
        GlassCity y = Kit.of("size 6 5");
        Kit.crack(y, 28, 1);
        Kit.due("the last but one", 1 << 28, y::round);
        Kit.sentence("ROUNDS.");
        Kit.due("none", 0, x::rounds);
        Kit.due("one", 1, y::rounds);
        Kit.due("nothing stays", 1, () -> y.count(6));
    }

    private static void lampsToBack() {
        Kit.sentence("LAMPS, as bits; NONE.");
        GlassCity x = new GlassCity();
        Kit.due("0", 0, () -> x.lamps(0, 0));
        Kit.due("the last pane", 256, () -> x.lamps(256, 0));
        Kit.due("none", -1, () -> x.lamps(511, 0));
        Kit.sentence("UNDONE: whether there was one.");
        Kit.due("none", false, x::undo);
        x.strew(0, 0);
        Kit.due("one", true, x::undo);
        Kit.due("none any more", false, x::undo);
        Kit.sentence("THE IMAGE is kept.");
        GlassCity kept = city();
        kept.image();
        // behind back() no acts are remembered: with that it is the same each time
        Kit.due("back", true, kept::back);
        String asKept = Kit.state(kept);
        kept.mend();
        kept.strew(0, 100);
        kept.runs(1);
        Kit.shame(kept, "hide");
        Kit.due("back again", true, kept::back);
        Kit.same("all of it", asKept, Kit.state(kept));
        Kit.sentence("One goes back to THE IMAGE: true; false, and nothing happens, if none was kept.");
        x.strew(0, 1);
        String before = Kit.state(x);
        Kit.due("none was kept", false, x::back);
        Kit.same("nothing happens", before, Kit.state(x));
        x.image();
        Kit.same("the image changes nothing", before, Kit.state(x));
        Kit.due("back at once", true, x::back);
        Kit.due("the acts are gone", 0, () -> x.count(8));
    }

    private static void counts() {
        Kit.sentence("0 WIDE, 1 HIGH, 2 CARTS, 3 texts of THE CITY, 4 LINES of SHAME (NONE without one), 5 SEERS, 6 CRACKS of all, "
                + "7 BROKEN ones, 8 acts that can be UNDONE, 9 SAND of all. NONE for another what.");
        GlassCity x = Kit.of("size 6 5;cart 1 0 0 0 to 0");
        Kit.due("without a law", -1, () -> x.count(4));
        Kit.shame(x, "");
        Kit.due("a law without LINES", 0, () -> x.count(4));
        Kit.shame(x, "hide;".repeat(11) + "hide");
        for (int n = 0; n < 6; n++) {
            x.seer();
        }
        for (int pane = 0; pane < 30; pane++) {
            Kit.crack(x, pane, 3);
            x.strew(pane, 100);
        }
        int[] due = {6, 5, 1, 1, 12, 6, 90, 30, 12, 3000};
        for (int what = 0; what < due.length; what++) {
            int w = what;
            Kit.due("what " + what, due[what], () -> x.count(w));
        }
        for (int none : new int[] {-1, 10, LEAST, GREATEST}) {
            Kit.due("what " + none, -1, () -> x.count(none));
        }
    }

    private static void manyCalls() {
        Kit.sentence("An object is used for at most 512 calls after it has been made");
        GlassCity x = new GlassCity();
        for (int n = 1; n <= 512; n++) {
            int due = n % 101;
            int was = n == 1 ? 0 : (n - 1) % 101;
            Kit.due("call " + n, was, () -> x.strew(8, due));
        }
    }
}
