import java.util.Arrays;

/** Terms, ==== 3: frost, odds, mending, lamps, acts undone and the image: each sentence with its edges. */
public final class EdgesOfNightsTest {
    public static void main(String[] args) {
        frostTakesHeat();
        frostCracks();
        seeds();
        odds();
        spread();
        mayBeClosed();
        rounds();
        roundByRound();
        lamps();
        undone();
        forgotten();
        image();
        Kit.finish("EdgesOfNightsTest");
    }

    /** The draws by a seed, by hand in longs. */
    private static int[] draws(int seed, int n) {
        long s = seed & 0xffffffffL;
        int[] all = new int[n];
        for (int i = 0; i < n; i++) {
            s = (s * 1103515245L + 12345L) % 0x100000000L;
            all[i] = (int) (s / 65536 % 32768);
        }
        return all;
    }

    private static void frostTakesHeat() {
        Kit.sentence("FROST by a SEED and N (1 to 60): for each PANE, by numbers: DRAW modulo N is taken from HEAT (- 40 at least);");
        for (int n = 1; n <= 60; n++) {
            for (String line : new String[] {"heat 0 0 60", "heat 0 0 0", "cold 0 0 1", "cold 0 0 39", "cold 0 0 40"}) {
                GlassCity x = Kit.of("size 1 1;" + line);
                int heat = x.pane(0, 1);
                x.frost(n, n);
                Kit.due(line + " by " + n, Math.max(-40, heat - draws(n, 1)[0] % n), () -> x.pane(0, 1));
            }
        }
        GlassCity x = Kit.of("size 6 5");
        Kit.due("0", Kit.ARGUMENT, () -> x.frost(1, 0));
        Kit.due("61", Kit.ARGUMENT, () -> x.frost(1, 61));
        Kit.due("modulo 1 takes nothing", 0, () -> x.frost(12345, 1));
        // nothing gets below 0 by modulo 11, so each pane takes one draw
        x.frost(99, 11);
        int[] draws = draws(99, 30);
        for (int pane = 0; pane < 30; pane++) {
            int p = pane;
            Kit.due("heat of " + pane, 10 - draws[pane] % 11, () -> x.pane(p, 1));
        }
        Kit.due("at 0 nothing cracks", 0, () -> x.count(6));
    }

    /** A seed of which the second draw modulo 100 is just this. */
    private static int seedFor(int second) {
        for (int seed = 0; seed < 100000; seed++) {
            if (draws(seed, 2)[1] % 100 == second) {
                return seed;
            }
        }
        throw new IllegalStateException("no seed");
    }

    private static void frostCracks() {
        Kit.sentence("then, if HEAT is below 0 and it is not BROKEN: DRAW modulo 100: below CHANCE (RISK: 3 times what HEAT is below 0, "
                + "less THICK; 0 at least, 100 at most): one CRACK more.");
        for (int cold = 1; cold <= 40; cold++) {
            for (int thick : new int[] {1, 4, 9}) {
                int chance = Math.max(0, Math.min(100, 3 * cold - thick));
                for (int draw : new int[] {0, chance - 1, chance, 99}) {
                    if (draw < 0 || draw > 99) {
                        continue;
                    }
                    GlassCity x = Kit.of("size 1 1;thick 0 0 " + thick + ";cold 0 0 " + cold);
                    int seed = seedFor(draw);
                    int due = draw < chance ? 1 : 0;
                    Kit.due("cold " + cold + " thick " + thick + " draw " + draw, due, () -> x.frost(seed, 1));
                    Kit.due("cracks", due, () -> x.pane(0, 3));
                }
            }
        }
        secondDraws();
        GlassCity sure = Kit.of("size 1 1;cold 0 0 40");
        for (int n = 1; n <= 5; n++) {
            int seed = n;
            Kit.due("3 at most", n <= 3 ? 1 : 0, () -> sure.frost(seed, 60));
        }
        Kit.due("broken", 3, () -> sure.pane(0, 3));
    }

    /** Which draw the next pane takes tells whether there was a second one. */
    private static void secondDraws() {
        int[] draws = draws(77, 3);
        int taken = draws[0] % 60;
        for (int heat = -1; heat <= 1; heat++) {
            GlassCity x = Kit.of("size 2 1;heat 0 0 " + (taken + heat) + ";heat 1 0 60");
            x.frost(77, 60);
            int due = heat;
            Kit.due("heat is " + heat + " then", due, () -> x.pane(0, 1));
            Kit.due("the next one at heat " + heat, 60 - draws[heat < 0 ? 2 : 1] % 60, () -> x.pane(1, 1));
        }
        GlassCity broken = Kit.of("size 2 1;cold 0 0 40");
        Kit.crack(broken, 0, 3);
        Kit.same("heat", "2", Kit.city(broken, "heat 1 0 60"));
        broken.frost(77, 60);
        Kit.due("no second draw of what is broken", 60 - draws[1] % 60, () -> broken.pane(1, 1));
    }

    private static void seeds() {
        Kit.sentence("SEED is 1103515245 times SEED and 12345, as an int that goes round; bits 16 to 30. How many got one.");
        for (int seed : new int[] {0, 1, -1, Integer.MAX_VALUE, Integer.MIN_VALUE, 65535, 65536, -65536, 0x7fff0000, 0x80000001}) {
            GlassCity x = Kit.of("size 6 5;cold 0 0 20;cold 3 2 30;cold 5 4 9;heat 1 1 60");
            int[] heat = new int[30];
            Arrays.setAll(heat, p -> x.pane(p, 1));
            int[] draws = draws(seed, 60);
            int at = 0;
            int got = 0;
            for (int pane = 0; pane < 30; pane++) {
                heat[pane] = Math.max(-40, heat[pane] - draws[at++] % 37);
                got += heat[pane] < 0 && draws[at++] % 100 < Math.min(100, Math.max(0, -3 * heat[pane] - 4)) ? 1 : 0;
            }
            int due = got;
            Kit.due("how many by " + seed, due, () -> x.frost(seed, 37));
            for (int pane = 0; pane < 30; pane++) {
                int p = pane;
                Kit.due("heat of " + pane + " by " + seed, heat[pane], () -> x.pane(p, 1));
            }
            Kit.due("one each", due, () -> x.count(6));
        }
    }

    private static GlassCity coldCity(int cold) {
        GlassCity x = Kit.of("size 6 5");
        for (int pane = 0; pane < 30; pane += 10) {
            StringBuilder text = new StringBuilder();
            for (int p = pane; p < pane + 10; p++) {
                text.append(p == pane ? "" : ";").append("cold ").append(p % 6).append(' ').append(p / 6).append(' ').append(cold);
            }
            Kit.same("cold", pane / 10 + 2, Kit.city(x, text.toString()));
        }
        return x;
    }

    private static void odds() {
        Kit.sentence("ODDS of a night without change of HEAT: that none gets a CRACK: billionths: 1000000000, by each PANE that is not BROKEN "
                + "and whose HEAT is below 0 times (100 less CHANCE) by 100, rounded down.");
        Kit.due("all warm", 1000000000, () -> new GlassCity().odds());
        Kit.due("heat 0", 1000000000, () -> coldCity(0).odds());
        Kit.due("no chance below 0", 1000000000, () -> coldCity(1).odds());
        Kit.due("a sure crack", 0, () -> coldCity(40).odds());
        for (int cold = 2; cold <= 35; cold++) {
            GlassCity x = coldCity(cold);
            long due = 1000000000;
            for (int pane = 0; pane < 30; pane++) {
                due = due * Math.max(0, 100 - (3 * cold - 4)) / 100;
            }
            Kit.due("30 at cold " + cold + ", each rounded down", due, x::odds);
            Kit.due("spread of 0", due, () -> x.spread(0));
        }
        GlassCity y = Kit.of("size 2 1;cold 0 0 40;cold 1 0 2");
        Kit.due("a sure one", 0, y::odds);
        Kit.crack(y, 0, 2);
        Kit.due("still a sure one", 0, y::odds);
        Kit.crack(y, 0, 1);
        Kit.due("broken does not count", 980000000, y::odds);
        Kit.due("nothing changes", -2, () -> y.pane(1, 1));
    }

    private static void spread() {
        Kit.sentence("SPREAD: that just K get one: billionths: of 0 1000000000 at first; PANE by PANE as above, of each number of CRACKS at once: "
                + "what there was of it times (100 less CHANCE) by 100, rounded down, and what there was of one less times CHANCE by 100, rounded down.");
        for (int cold : new int[] {0, 1, 2, 7, 19, 34, 35, 40}) {
            GlassCity x = coldCity(cold);
            int chance = Math.max(0, Math.min(100, 3 * cold - 4));
            long[] due = new long[32];
            due[0] = 1000000000;
            for (int pane = 0; pane < 30 && cold > 0; pane++) {
                long[] next = new long[32];
                for (int k = 0; k < 32; k++) {
                    next[k] = due[k] * (100 - chance) / 100 + (k > 0 ? due[k - 1] * chance / 100 : 0);
                }
                due = next;
            }
            for (int k = 0; k <= 31; k++) {
                int n = k;
                Kit.due("cold " + cold + ": " + k, due[k], () -> x.spread(n));
            }
        }
        GlassCity y = Kit.of("size 2 1;cold 0 0 40;cold 1 0 40");
        Kit.due("both", 1000000000, () -> y.spread(2));
        Kit.crack(y, 0, 3);
        Kit.due("broken gets none", 1000000000, () -> y.spread(1));
        Kit.due("so not both", 0, () -> y.spread(2));
    }

    private static void mayBeClosed() {
        Kit.sentence("MENDED: a set of PANES may be closed at once, if from PANE 0 to the last one there is still a way by PANES beside one another "
                + "that are not closed and not BROKEN.");
        GlassCity one = Kit.of("size 1 1");
        Kit.due("one pane", true, () -> one.may(0));
        Kit.due("one pane, closed", false, () -> one.may(1));
        Kit.crack(one, 0, 2);
        Kit.due("one pane with two cracks", true, () -> one.may(0));
        Kit.crack(one, 0, 1);
        Kit.due("one pane, broken", false, () -> one.may(0));
        GlassCity x = Kit.of("size 6 5");
        Kit.due("none closed", true, () -> x.may(0));
        Kit.due("the first", false, () -> x.may(1));
        Kit.due("the last", false, () -> x.may(1 << 29));
        Kit.due("beside the first, both", false, () -> x.may(Kit.bits(1, 6)));
        Kit.due("beside the last, both", false, () -> x.may(Kit.bits(28, 23)));
        // there and back and there again by all rows: 0-5, 11, 17-12, 18, 24-29
        Kit.due("the longest way", true, () -> x.may(Kit.bits(6, 7, 8, 9, 10, 19, 20, 21, 22, 23)));
        Kit.due("without 11", false, () -> x.may(Kit.bits(6, 7, 8, 9, 10, 19, 20, 21, 22, 23, 11)));
        Kit.due("without 14", false, () -> x.may(Kit.bits(6, 7, 8, 9, 10, 19, 20, 21, 22, 23, 14)));
        Kit.due("the end of a row is not beside the next", false, () -> x.may(Kit.bits(6, 7, 8, 9, 10, 11)));
        for (int pane = 0; pane < 30; pane++) {
            int p = pane;
            Kit.due("alone " + pane, pane != 0 && pane != 29, () -> x.may(1 << p));
        }
        Kit.crack(x, 1, 3);
        Kit.due("round what is broken", true, () -> x.may(0));
        Kit.due("6 as well", false, () -> x.may(1 << 6));
        Kit.crack(x, 6, 3);
        Kit.due("both broken", false, () -> x.may(0));
    }

    private static void rounds() {
        Kit.sentence("ROUND: of PANES with CRACKS (the first 10 by numbers) the greatest set that may be closed, none, if there is none; "
                + "of several the least as bits; it can be mended (CRACKS 0).");
        GlassCity x = Kit.of("size 6 5");
        Kit.due("no cracks", 0, x::round);
        for (int pane = 7; pane <= 17; pane++) {
            if (pane != 11) {
                Kit.crack(x, pane, 1);
            }
        }
        int ten = Kit.bits(7, 8, 9, 10, 12, 13, 14, 15, 16, 17);
        Kit.due("ten, with the way by the edge: one must be open", Integer.bitCount(ten) - 1, () -> Integer.bitCount(x.round()));
        Kit.due("the least as bits: without 17", ten & ~(1 << 17), x::round);
        Kit.crack(x, 18, 1);
        Kit.due("an 11th does not count", ten & ~(1 << 17), x::round);
        Kit.due("nine cracks", 9, x::mend);
        Kit.due("then both", Kit.bits(17, 18), x::round);
        GlassCity y = new GlassCity();
        Kit.crack(y, 0, 1);
        Kit.crack(y, 8, 1);
        Kit.due("first and last alone", 0, y::round);
        Kit.due("nothing is mended", 0, y::mend);
        Kit.crack(y, 1, 2);
        Kit.crack(y, 3, 2);
        Kit.due("1 or 3: the least", 2, y::round);
        Kit.crack(y, 4, 3);
        Kit.due("a broken one, too", Kit.bits(1, 4), y::round);
        Kit.due("2 and 3", 5, y::mend);
        Kit.due("whole", 0, () -> y.pane(1, 3) + y.pane(4, 3));
        Kit.due("not 3", 2, () -> y.pane(3, 3));
        Kit.crack(y, 0, 2);
        Kit.due("the first is broken: none may be closed", 0, y::round);
        Kit.due("none is mended", 0, y::mend);
    }

    private static void roundByRound() {
        Kit.sentence("ROUNDS: how many, one behind another, till a ROUND is none (nothing stays).");
        GlassCity x = Kit.of("size 6 5");
        Kit.due("none", 0, x::rounds);
        x.runs(0);
        x.blow(0, 999);
        Kit.due("all cracked", 30, () -> x.count(6));
        String before = Kit.state(x);
        int due = 0;
        GlassCity y = Kit.of("size 6 5");
        y.runs(0);
        y.blow(0, 999);
        while (y.round() != 0) {
            y.mend();
            due++;
        }
        Kit.same("as one does by hand", due, x.rounds());
        Kit.same("first and last keep theirs", 2, y.count(6));
        Kit.same("nothing stays", before, Kit.state(x));
        GlassCity line = Kit.of("size 6 1");
        Kit.crack(line, 3, 1);
        Kit.due("none in a line", 0, line::rounds);
        GlassCity one = Kit.of("size 1 1");
        Kit.crack(one, 0, 1);
        Kit.due("none of one pane", 0, one::rounds);
        GlassCity three = Kit.of("size 2 2");
        Kit.crack(three, 1, 3);
        Kit.due("a broken one", 1, three::rounds);
        Kit.crack(three, 2, 1);
        Kit.due("then the other one", 2, three::rounds);
    }

    private static void lamps() {
        Kit.sentence("LAMPS: the fewest PANES (0 to 3) below which new lamps, 50 more below each of these, 25 more below each PANE beside it, "
                + "make LIGHT below all PANES of a set 50 at least at an hour: of several the least as bits; none.");
        GlassCity x = Kit.of("size 6 1;lamp 0 0 50;lamp 1 0 49;lamp 2 0 25;lamp 3 0 24");
        Kit.due("no panes", 0, () -> x.lamps(0, 0));
        Kit.due("50", 0, () -> x.lamps(1, 0));
        Kit.due("49: the least beside", 1, () -> x.lamps(2, 0));
        Kit.due("25: the least beside", 2, () -> x.lamps(4, 0));
        Kit.due("24: below itself", 8, () -> x.lamps(8, 0));
        Kit.due("49, 25 and 24 by one below 3 and one beside 1", Kit.bits(0, 3), () -> x.lamps(Kit.bits(1, 2, 3), 0));
        Kit.due("24 and 0 by their own, 0 between them", Kit.bits(3, 5), () -> x.lamps(Kit.bits(3, 4, 5), 0));
        GlassCity dark = Kit.of("size 6 5");
        Kit.due("one", 1 << 29, () -> dark.lamps(1 << 29, 0));
        Kit.due("two", 1 << 29 | 1, () -> dark.lamps(1 << 29 | 1, 0));
        Kit.due("three", Kit.bits(0, 14, 29), () -> dark.lamps(Kit.bits(0, 14, 29), 0));
        Kit.due("four are too many", -1, () -> dark.lamps(Kit.bits(0, 5, 24, 29), 0));
        Kit.due("between two: 25 and 25", Kit.bits(1, 3), () -> dark.lamps(Kit.bits(1, 2, 3), 0));
        Kit.due("by {0, 7} or {1, 6}: the least", Kit.bits(1, 6), () -> dark.lamps(Kit.bits(0, 1, 6, 7), 0));
        Kit.due("by day none", 0, () -> dark.lamps(-1, 12));
        GlassCity dim = Kit.of("size 3 1;lamp 0 0 25;lamp 1 0 25;lamp 2 0 25");
        Kit.due("one for three", 2, () -> dim.lamps(7, 0));
        // panes 0, 2 and 5 are dim: two lamps, one of them beside two
        GlassCity two = Kit.of("size 6 1;lamp 0 0 30;lamp 2 0 30;lamp 5 0 30");
        Kit.due("one beside two, one beside the other", Kit.bits(1, 4), () -> two.lamps(Kit.bits(0, 2, 5), 0));
        Kit.due("nothing stays", 30, () -> two.light(0, 0, 2));
        lampsAtTheBorder();
        lampsOnce();
    }

    /** Panes of the last row: there are none below them, nor behind the last. */
    private static void lampsAtTheBorder() {
        GlassCity x = Kit.of("size 6 5;lamp 0 0 30;lamp 5 0 30;lamp 0 4 30;lamp 1 4 30;lamp 3 4 30;lamp 5 4 30");
        Kit.due("the two ends of the last row", Kit.bits(18, 23), () -> x.lamps(Kit.bits(24, 29), 0));
        Kit.due("three of the last row", Kit.bits(23, 26), () -> x.lamps(Kit.bits(25, 27, 29), 0));
        Kit.due("the four corners", -1, () -> x.lamps(Kit.bits(0, 5, 24, 29), 0));
        Kit.due("two corners and three of the last row", -1, () -> x.lamps(Kit.bits(0, 5, 25, 27, 29), 0));
    }

    /** No pane has two new lamps: what is dark beside a lamp wants another one. */
    private static void lampsOnce() {
        GlassCity dark = Kit.of("size 6 1");
        Kit.due("not twice below 1", Kit.bits(0, 2, 5), () -> dark.lamps(Kit.bits(0, 1, 2, 5), 0));
        GlassCity x = Kit.of("size 6 1;lamp 0 0 30;lamp 1 0 30;lamp 2 0 30");
        Kit.due("not twice below 4", Kit.bits(0, 3, 5), () -> x.lamps(63, 0));
    }

    private static void undone() {
        Kit.sentence("UNDONE: the latest BLOW, FROST, MENDING, STRAWING of SAND, by hand, not undone yet (12 are remembered): all PANES are as ahead of it.");
        GlassCity x = Kit.of("size 6 5;cold 0 0 40;cold 5 4 40;heat 1 0 60");
        Kit.due("nothing yet", false, x::undo);
        java.util.List<String> states = new java.util.ArrayList<>();
        for (int n = 0; n < 14; n++) {
            states.add(panes(x));
            switch (n % 4) {
                case 0 -> x.strew(29, 10 + n);
                case 1 -> x.blow(n, 999);
                case 2 -> x.frost(n, 20);
                default -> x.mend();
            }
            int due = Math.min(12, n + 1);
            Kit.due("acts", due, () -> x.count(8));
        }
        for (int n = 13; n >= 2; n--) {
            Kit.due("undone", true, x::undo);
            Kit.same("as ahead of " + n, states.get(n), panes(x));
        }
        Kit.due("the 13th is not remembered", false, x::undo);
        Kit.same("nothing happens", states.get(2), panes(x));
        Kit.due("none", 0, () -> x.count(8));
        x.strew(0, 1);
        Kit.due("one anew", true, x::undo);
        Kit.same("as ahead of it", states.get(2), panes(x));
        // what is refused is no act
        Kit.due("refused", Kit.ARGUMENT, () -> x.strew(0, 101));
        Kit.due("refused", Kit.ARGUMENT, () -> x.blow(0, 0));
        Kit.due("refused", Kit.ARGUMENT, () -> x.frost(0, 0));
        Kit.due("no act", false, x::undo);
    }

    private static String panes(GlassCity x) {
        StringBuilder all = new StringBuilder();
        for (int pane = 0; pane < x.count(0) * x.count(1); pane++) {
            for (int what = 0; what < 7; what++) {
                all.append(x.pane(pane, what)).append(' ');
            }
        }
        return all.toString();
    }

    private static void forgotten() {
        Kit.sentence("(A text of THE CITY, or going back to THE IMAGE: none are remembered.)");
        GlassCity x = new GlassCity();
        for (String text : new String[] {"", "sand 0 0 5", "size 3 3"}) {
            x.strew(1, 7);
            x.blow(2, 999);
            Kit.due("two", 2, () -> x.count(8));
            Kit.same("a wrong text", Kit.ARGUMENT, Kit.city(x, text + ";"));
            Kit.due("still two", 2, () -> x.count(8));
            Kit.same("a text", false, Kit.city(x, text).endsWith("Exception"));
            Kit.due("none", 0, () -> x.count(8));
            Kit.due("none", false, x::undo);
        }
        x.strew(1, 7);
        Kit.due("no image yet", false, x::back);
        Kit.due("still one", 1, () -> x.count(8));
        x.image();
        Kit.due("the image itself forgets none", 1, () -> x.count(8));
        x.strew(1, 8);
        Kit.due("back", true, x::back);
        Kit.due("none", 0, () -> x.count(8));
        Kit.due("none", false, x::undo);
        Kit.due("as in the image", 7, () -> x.pane(1, 2));
    }

    private static void image() {
        Kit.sentence("THE IMAGE (one) of all may be kept, and gone back to (but for the TAPE, fault() and THE IMAGE itself).");
        GlassCity x = new GlassCity();
        x.image();
        String first = Kit.state(x);
        changeAll(x, "size 6 5");
        Kit.due("back from the greatest city", true, x::back);
        Kit.same("as at first", first, Kit.state(x));
        Kit.due("no pane 9", Kit.BOUNDS, () -> x.pane(9, 0));
        Kit.due("ways by the edges of then", true, () -> x.may(Kit.bits(3, 4, 6, 7)) && !x.may(Kit.bits(1, 3)) && !x.may(Kit.bits(2, 4, 6)));
        Kit.due("sets of then", 9 * 160, () -> x.trace(-1 << 9, 300, false));
        Kit.due("a parade of then", 4, () -> x.parade(0, 8, 0, 160, -1));
        changeAll(x, "size 1 2");
        Kit.due("back from a small city", true, x::back);
        Kit.same("as at first, again", first, Kit.state(x));
        Kit.due("ways by the edges of then", true, () -> x.may(Kit.bits(1, 2, 4, 5)));
        backByOneText();
        changeAll(x, "size 5 2");
        String second = Kit.state(x);
        x.image();
        Kit.due("one is there: the later", true, x::back);
        Kit.same("the later", second, Kit.state(x));
        Kit.same("no text", Kit.ARGUMENT, Kit.city(x, " ?"));
        x.feed(0, 0, 0, 0, 0);
        Kit.due("back", true, x::back);
        Kit.due("fault() stays", 1, x::fault);
        Kit.same("the tape stays", 20, Kit.tapeLength(x));
        Kit.due("the image stays", true, x::back);
    }

    /** As often as not the city that goes back has been another size itself: sets and edges come from the image. */
    private static void backByOneText() {
        for (int texts = 1; texts <= 4; texts++) {
            GlassCity x = Kit.of("size 3 4");
            x.image();
            for (int n = 0; n < texts; n++) {
                Kit.city(x, n == 0 ? "size 6 5" : "");
                Kit.due("the last pane of the great city", 29161, () -> x.trace(1 << 29, 300, true));
                Kit.due("rows of the great city", false, () -> x.may(Kit.bits(6, 7, 8, 9, 10, 11)));
                Kit.due("columns of the great city", true, () -> x.may(Kit.bits(1, 7, 13, 19, 4, 16, 22, 28)));
            }
            Kit.due("back", true, x::back);
            Kit.due("bits of none count for nothing", 12 * 160, () -> x.trace(1 << 29 | 1 << 12, 300, false));
            Kit.due("by the left", true, () -> x.may(Kit.bits(1, 2, 4, 5, 7, 8)));
            Kit.due("by the right", true, () -> x.may(Kit.bits(3, 4, 6, 7)));
            Kit.due("no way from the end of a row to the next", false, () -> x.may(Kit.bits(3, 4, 7, 8)));
            Kit.due("nor from the begin of a row to the one before", false, () -> x.may(Kit.bits(1, 4, 6)));
        }
    }

    /** Every part of the state becomes another one; no act can be undone then. */
    private static void changeAll(GlassCity x, String size) {
        for (int n = x.count(5); n < 6; n++) {
            x.seer();
        }
        Kit.city(x, size + ";thick 0 1 9;cold 0 0 9;sand 0 0 9;owner 0 0 5;lamp 0 1 9;cart 9 0 1 1 to 2;cart 8 0 0 3 to 4 felt");
        Kit.shame(x, "fine 7 if thick > 4 and sand < 2;hide if owner > 3;show");
        x.offer(5, 1, 44);
        x.runs(77);
        x.blow(1, 999);
        Kit.city(x, "");
    }
}
