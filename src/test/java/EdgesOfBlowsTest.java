/** Terms, ==== 3: blows, the way back to them, parades and stronger panes: each sentence with its edges. */
public final class EdgesOfBlowsTest {
    public static void main(String[] args) {
        blows();
        runs();
        theNext();
        wholeCity();
        back();
        backToNone();
        parades();
        hoursOfParades();
        firstWays();
        heaviest();
        weakest();
        strengthened();
        Kit.finish("EdgesOfBlowsTest");
    }

    private static void blows() {
        Kit.sentence("A BLOW on a PANE of a FORCE (1 to 999): if FORCE is above BEARS: one CRACK more (3 at most; so of what is BROKEN none), "
                + "and it RUNS: LEFT is FORCE less BEARS;");
        GlassCity x = Kit.of("size 2 1;thick 0 0 9;thick 1 0 1;cold 1 0 10");
        Kit.due("0", Kit.ARGUMENT, () -> x.blow(0, 0));
        Kit.due("1000", Kit.ARGUMENT, () -> x.blow(0, 1000));
        Kit.due("810 of 810", 0, () -> x.blow(0, 810));
        Kit.due("the least force on what bears nothing", 1, () -> x.blow(1, 1));
        Kit.due("one crack", 1, () -> x.pane(1, 3));
        Kit.due("811 of 810", 1, () -> x.blow(0, 811));
        Kit.due("the greatest force", 1, () -> x.blow(0, 999));
        Kit.due("one more", 2, () -> x.pane(0, 3));
        Kit.due("750 of 750", 0, () -> x.blow(0, 750));
        Kit.due("751 of 750", 1, () -> x.blow(0, 751));
        Kit.due("broken", 3, () -> x.pane(0, 3));
        Kit.due("none of what is broken", 0, () -> x.blow(0, 999));
        Kit.due("3 at most", 3, () -> x.pane(0, 3));
        // what is broken bears 0, so LEFT is all of the FORCE: it runs from there to a pane of THICK 1
        GlassCity y = Kit.of("size 2 1;heat 1 0 60;thick 1 0 1");
        Kit.crack(y, 0, 3);
        y.runs(50);
        Kit.due("5 is not above 5", 0, () -> y.would(0, 5));
        Kit.due("6 is", 2, () -> y.would(0, 6));
        Kit.due("the other one alone gets one", 1, () -> y.blow(0, 6));
    }

    private static void runs() {
        Kit.sentence("as long as it goes on: of the PANES beside the latest one that have no CRACKS, whose HEAT is off that one's by RUN "
                + "at least (RUN 0 to 100; 10 at first) and for which LEFT is above 5 times THICK");
        GlassCity x = Kit.of("size 3 1;heat 0 0 20;heat 1 0 30;heat 2 0 21");
        Kit.due("off 10, then 9", 3, () -> x.would(0, 999));
        Kit.due("from the middle: off 10", 3, () -> x.would(1, 999));
        x.runs(9);
        Kit.due("off 9", 7, () -> x.would(0, 999));
        x.runs(11);
        Kit.due("off 10 is below 11", 1, () -> x.would(0, 999));
        Kit.due("-1", Kit.ARGUMENT, () -> x.runs(-1));
        Kit.due("101", Kit.ARGUMENT, () -> x.runs(101));
        Kit.due("still 11", 11, () -> x.runs(100));
        GlassCity far = Kit.of("size 3 1;heat 0 0 60;cold 1 0 40;heat 2 0 59");
        far.runs(100);
        Kit.due("off 100, then 99", 3, () -> far.would(0, 999));
        far.runs(0);
        Kit.due("off 0 at least", 7, () -> far.would(0, 999));
        GlassCity same = Kit.of("size 3 1");
        same.runs(0);
        Kit.due("off 0 is 0 at least", 7, () -> same.would(0, 999));
        same.runs(1);
        Kit.due("off 0 is not 1", 1, () -> same.would(0, 999));
        Kit.crack(same, 1, 1);
        same.runs(0);
        Kit.due("what has a crack stops it", 1, () -> same.would(0, 999));
        for (int thick = 1; thick <= 9; thick++) {
            GlassCity y = Kit.of("size 2 1;heat 1 0 20;thick 1 0 " + thick);
            int left = 5 * thick;
            Kit.due("5 times " + thick + " is not above", 1, () -> y.would(0, 160 + left));
            Kit.due("5 times " + thick + " and 1 is", 3, () -> y.would(0, 161 + left));
        }
    }

    private static void theNext() {
        Kit.sentence("that whose HEAT is off the most, of several the first (above, right, below, left): it has a CRACK, "
                + "LEFT is 5 times its THICK less, it is the latest.");
        // all four beside 4 are off 20: it comes to those that have no cracks in this order
        GlassCity x = Kit.of("heat 1 0 30;heat 2 1 30;heat 1 2 30;cold 0 1 10");
        x.runs(20);
        for (int next : new int[] {1, 5, 7, 3}) {
            Kit.due("to " + next, 16 | 1 << next, () -> x.would(4, 181));
            int run = x.runs(100);
            x.blow(next, 999);
            x.runs(run);
        }
        Kit.due("to none", 16, () -> x.would(4, 181));
        GlassCity y = Kit.of("heat 1 0 30;heat 2 1 31;heat 1 2 30;cold 0 1 12");
        Kit.due("off 22 to the left is the most", 16 + 8, () -> y.would(4, 181));
        // 10, 30, 50, 60: each costs 20, the last one by its thickness
        GlassCity z = Kit.of("size 4 1;heat 1 0 30;heat 2 0 50;heat 3 0 60;thick 3 0 1");
        Kit.due("20 left", 1, () -> z.would(0, 180));
        Kit.due("21 left", 3, () -> z.would(0, 181));
        Kit.due("40 left", 3, () -> z.would(0, 200));
        Kit.due("41 left", 7, () -> z.would(0, 201));
        Kit.due("45 left", 7, () -> z.would(0, 205));
        Kit.due("46 left", 15, () -> z.would(0, 206));
        Kit.due("from the latest: back it does not go", 8 + 4 + 2 + 1, () -> z.would(3, 999));
    }

    private static void wholeCity() {
        Kit.sentence("How many PANES got one.");
        GlassCity x = Kit.of("size 6 5");
        x.runs(0);
        Kit.due("none", 0, () -> x.blow(0, 160));
        // by the first row and the last column, then up and down column by column: 6 is the last
        Kit.due("all but for the last", 0x3fffffff & ~(1 << 6), () -> x.would(0, 160 + 29 * 20));
        Kit.due("all", 0x3fffffff, () -> x.would(0, 161 + 29 * 20));
        Kit.due("all", 30, () -> x.blow(0, 161 + 29 * 20));
        Kit.due("one each", 30, () -> x.count(6));
        Kit.due("then the one alone", 1, () -> x.blow(29, 999));
    }

    private static void back() {
        Kit.sentence("BACK: to a set of PANES: BLOWS (on one PANE, of a FORCE from 1 to a told most, 300 at most) after which, from now, "
                + "just this set has more CRACKS than now: how many; the first (by PANE, then FORCE).");
        GlassCity x = Kit.of("size 3 1;heat 2 0 20");
        // {0}: 161 on; {1}: 161 to 180; {1, 2}: 181 on by 1, and 181 on by 2; {2}: 161 to 180
        Kit.due("to 160 none", 0, () -> x.trace(1, 160, false));
        Kit.due("to 160 none", -1, () -> x.trace(1, 160, true));
        Kit.due("to 161 one", 1, () -> x.trace(1, 161, false));
        Kit.due("the first", 161, () -> x.trace(1, 161, true));
        Kit.due("to 300", 140, () -> x.trace(1, 300, false));
        Kit.due("{1} to 300", 20, () -> x.trace(2, 300, false));
        Kit.due("{1, 2} to 180", 0, () -> x.trace(6, 180, false));
        Kit.due("{1, 2} to 181, by two panes", 2, () -> x.trace(6, 181, false));
        Kit.due("{1, 2} by the lesser pane", 1181, () -> x.trace(6, 300, true));
        Kit.due("{2}", 2161, () -> x.trace(4, 300, true));
        Kit.due("never", 0, () -> x.trace(5, 300, false));
        Kit.due("never", -1, () -> x.trace(7, 300, true));
        Kit.due("0", Kit.ARGUMENT, () -> x.trace(1, 0, true));
        Kit.due("301", Kit.ARGUMENT, () -> x.trace(1, 301, true));
        x.runs(100);
        x.blow(0, 999);
        // from now: 0 bears 130
        Kit.due("from now", 131, () -> x.trace(1, 300, true));
        Kit.due("from now", 170, () -> x.trace(1, 300, false));
        x.blow(0, 999);
        x.blow(0, 999);
        Kit.due("broken: never", -1, () -> x.trace(1, 300, true));
        Kit.due("broken: never", 0, () -> x.trace(1, 300, false));
        GlassCity last = Kit.of("size 6 5");
        Kit.due("the last pane", 29161, () -> last.trace(1 << 29, 300, true));
        Kit.due("the last pane", 140, () -> last.trace(1 << 29, 300, false));
        Kit.due("never in the greatest city", -1, () -> last.trace(3, 300, true));
        Kit.due("never in the greatest city", 0, () -> last.trace(3, 300, false));
        last.runs(0);
        Kit.due("panes of a long way", 14261, () -> last.trace(Kit.bits(14, 8, 2, 3, 4, 5), 300, true));
    }

    private static void backToNone() {
        Kit.sentence("Sets are bits of PANES; of none they count for nothing.");
        GlassCity x = Kit.of("size 3 1;thick 0 0 1;cold 0 0 10;thick 1 0 1;cold 1 0 9");
        // 0 bears 0, 1 bears 1, 2 bears 160
        Kit.due("no blow on 0", 1001, () -> x.trace(0, 300, true));
        Kit.due("1 and 160", 161, () -> x.trace(0, 300, false));
        Kit.due("to 1", 2, () -> x.trace(0, 1, false));
        Kit.due("to 160", 161, () -> x.trace(0, 160, false));
        for (int above : new int[] {8, 1 << 29, 1 << 30, 1 << 31, -8}) {
            Kit.due("bits above: none", 161, () -> x.trace(above, 300, false));
            Kit.due("bits above: {0}", 1, () -> x.trace(above | 1, 300, true));
            Kit.due("bits above: may", true, () -> x.may(above));
            Kit.due("bits above: may not", false, () -> x.may(above | 2));
            Kit.due("bits above: lamps", 0, () -> x.lamps(above, 0));
            Kit.due("bits above: lamps below 2", 4, () -> x.lamps(above | 4, 0));
        }
        GlassCity y = Kit.of("size 6 5");
        for (int above : new int[] {1 << 30, 1 << 31, 3 << 30}) {
            Kit.due("bits above 29: none", 30 * 160, () -> y.trace(above, 300, false));
            Kit.due("bits above 29: may", true, () -> y.may(above));
            Kit.due("bits above 29: lamps", 1 << 29, () -> y.lamps(above | 1 << 29, 0));
            Kit.due("bits above 29: the last pane", 29161, () -> y.trace(above | 1 << 29, 300, true));
        }
        // all ones: all panes
        Kit.due("all", false, () -> y.may(-1));
        Kit.due("all", -1, () -> y.lamps(-1, 0));
        Kit.due("all", 0, () -> y.lamps(-1, 12));
        y.runs(0);
        Kit.due("all 30", 0, () -> y.trace(-1, 300, false));
    }

    private static void way(String what, GlassCity x, int[] call, int... panes) {
        Kit.due(what + ": hours", panes.length - 1, () -> x.parade(call[0], call[1], call[2], call[3], -1));
        for (int k = 0; k < panes.length; k++) {
            int n = k;
            Kit.due(what + ": behind " + k, panes[k], () -> x.parade(call[0], call[1], call[2], call[3], n));
        }
        for (int k : new int[] {panes.length, panes.length + 1, 48, 49, 1000, Integer.MAX_VALUE}) {
            if (k >= panes.length) {
                Kit.due(what + ": behind the end, " + k, -1, () -> x.parade(call[0], call[1], call[2], call[3], k));
            }
        }
    }

    private static void none(String what, GlassCity x, int... call) {
        for (int k : new int[] {-1, 0, 1, 48, Integer.MAX_VALUE}) {
            Kit.due(what + ": k " + k, -1, () -> x.parade(call[0], call[1], call[2], call[3], k));
        }
    }

    private static void parades() {
        Kit.sentence("PARADE of a WEIGHT from a PANE at an hour to another one: each hour it goes to a PANE beside, or stays; "
                + "on each PANE at each hour (the first one, too) it HOLDS with that WEIGHT.");
        GlassCity x = Kit.of("size 3 1;cart 80 0 0 5 to 5;cart 80 2 0 7 to 7");
        none("it does not hold on the first", x, 0, 2, 5, 1);
        way("with 0 it does, and holds on the last, too", x, new int[] {0, 2, 5, 0}, 0, 1, 2);
        way("it waits as the last one is loaded", x, new int[] {1, 2, 6, 1}, 1, 1, 2);
        none("nor to stay where it is", x, 2, 2, 7, 1);
        way("to stay where it is", x, new int[] {2, 2, 7, 0}, 2);
        way("160 of 160", x, new int[] {0, 2, 8, 160}, 0, 1, 2);
        none("161 of 160", x, 0, 2, 8, 161);
        GlassCity y = Kit.of("size 3 1;thick 1 0 1;cold 1 0 10");
        way("0 of 0", y, new int[] {0, 2, 0, 0}, 0, 1, 2);
        none("1 of 0", y, 0, 2, 0, 1);
        Kit.crack(y, 1, 3);
        none("broken", y, 0, 2, 0, 0);
        none("from broken", y, 1, 2, 0, 0);
        none("to broken", y, 0, 1, 0, 0);
        none("on broken", y, 1, 1, 0, 0);
        Kit.due("999", -1, () -> x.parade(0, 2, 0, 999, -1));
        Kit.due("1000", Kit.ARGUMENT, () -> x.parade(0, 2, 0, 1000, -1));
        Kit.due("-1", Kit.ARGUMENT, () -> x.parade(0, 2, 0, -1, -1));
    }

    private static int[] stay(int... paneAndHours) {
        java.util.List<Integer> all = new java.util.ArrayList<>();
        for (int i = 0; i < paneAndHours.length; i += 2) {
            for (int n = 0; n < paneAndHours[i + 1]; n++) {
                all.add(paneAndHours[i]);
            }
        }
        return all.stream().mapToInt(n -> n).toArray();
    }

    private static void hoursOfParades() {
        Kit.sentence("none within 48 hours.");
        // panes 1 and 3 are free at 0 alone
        GlassCity x = Kit.of("size 6 1;cart 200 1 0 1 to 23;cart 200 3 0 1 to 23");
        way("48 hours", x, new int[] {0, 4, 1, 0}, stay(0, 23, 1, 1, 2, 23, 3, 1, 4, 1));
        none("49 hours", x, 0, 5, 1, 0);
        way("an hour later 48 hours", x, new int[] {0, 5, 2, 0}, stay(0, 22, 1, 1, 2, 23, 3, 1, 4, 1, 5, 1));
        way("round midnight", x, new int[] {0, 2, 23, 0}, 0, 1, 2);
        GlassCity never = Kit.of("size 3 1;cart 200 1 0 1 to 0");
        none("never", never, 0, 2, 0, 0);
    }

    private static void firstWays() {
        Kit.sentence("The fewest hours; of several ways the first (each hour: stays, then above, right, below, left);");
        way("above, then right", Kit.of("size 3 3"), new int[] {6, 2, 0, 0}, 6, 3, 0, 1, 2);
        way("right, then below", Kit.of("size 3 3"), new int[] {0, 8, 0, 0}, 0, 1, 2, 5, 8);
        way("below, then left", Kit.of("size 3 3"), new int[] {2, 6, 0, 0}, 2, 5, 8, 7, 6);
        way("above, then left", Kit.of("size 3 3"), new int[] {8, 0, 0, 0}, 8, 5, 2, 1, 0);
        way("stays as early as it can", Kit.of("size 4 1;cart 200 3 0 0 to 4"), new int[] {0, 3, 0, 0}, 0, 0, 0, 1, 2, 3);
        way("stays, but for an hour", Kit.of("size 3 1;cart 200 0 0 1 to 1;cart 200 2 0 0 to 2"), new int[] {0, 2, 0, 0}, 0, 1, 1, 2);
        way("there already, whatever comes an hour later", Kit.of("size 2 2;cart 200 0 1 1 to 1"), new int[] {2, 2, 0, 0}, 2);
        way("comes over the last row", Kit.of("size 6 5"), new int[] {24, 29, 0, 160}, 24, 25, 26, 27, 28, 29);
        way("all over the city", Kit.of("size 6 5"), new int[] {29, 0, 12, 160}, 29, 23, 17, 11, 5, 4, 3, 2, 1, 0);
    }

    private static void heaviest() {
        Kit.sentence("HEAVIEST: the greatest WEIGHT (0 to 999) with which a PARADE comes there at all; none.");
        GlassCity x = Kit.of("size 2 1;thick 0 0 9;thick 1 0 9");
        Kit.due("the most there can be", 810, () -> x.heaviest(0, 1, 0));
        Kit.due("with that it comes", 1, () -> x.parade(0, 1, 0, 810, -1));
        Kit.due("with 1 more it does not", -1, () -> x.parade(0, 1, 0, 811, -1));
        for (int cold = 0; cold <= 10; cold++) {
            GlassCity y = Kit.of("size 2 1;thick 1 0 1;cold 1 0 " + cold);
            int due = 10 - cold;
            Kit.due("down to 0", due, () -> y.heaviest(0, 1, 0));
            Kit.due("where it is", due, () -> y.heaviest(1, 1, 0));
        }
        GlassCity z = Kit.of("size 2 1;thick 0 0 1;cart 10 0 0 3 to 3 felt;cart 11 0 0 4 to 4 felt");
        Kit.due("10 of 10 are there", 0, () -> z.heaviest(0, 1, 3));
        Kit.due("11 of 10 are there", -1, () -> z.heaviest(0, 1, 4));
        Kit.due("it goes there later", 10, () -> z.heaviest(1, 0, 3));
        Kit.crack(z, 0, 3);
        Kit.due("broken", -1, () -> z.heaviest(0, 0, 0));
        Kit.due("to broken", -1, () -> z.heaviest(1, 0, 0));
        GlassCity late = Kit.of("size 6 1;cart 200 1 0 1 to 23;cart 200 3 0 1 to 23");
        Kit.due("within 48 hours", 160, () -> late.heaviest(0, 4, 1));
        Kit.due("not within 48 hours", -1, () -> late.heaviest(0, 5, 1));
    }

    private static void weakest() {
        Kit.sentence("WEAKEST at an hour: the PANE of which BEARS less LOAD is the least, of several the first.");
        Kit.due("all the same", 0, () -> new GlassCity().weakest(0));
        GlassCity x = Kit.of("size 6 5;cold 5 4 1");
        Kit.due("the last", 29, () -> x.weakest(0));
        Kit.same("text", "2", Kit.city(x, "cold 4 4 1"));
        Kit.due("of two the first", 28, () -> x.weakest(0));
        Kit.same("text", "3", Kit.city(x, "cart 200 3 4 5 to 5;cart 200 2 4 5 to 5;cart 1 2 4 5 to 5 felt"));
        Kit.due("below 0", 26, () -> x.weakest(5));
        Kit.due("at another hour", 28, () -> x.weakest(6));
        Kit.crack(x, 29, 3);
        Kit.due("broken bears 0", 29, () -> x.weakest(6));
        Kit.due("less than broken", 26, () -> x.weakest(5));
        GlassCity y = Kit.of("size 2 1;thick 0 0 1;cold 0 0 10");
        Kit.crack(y, 1, 3);
        Kit.due("0 and broken: the first", 0, () -> y.weakest(0));
    }

    private static void strengthened() {
        Kit.sentence("STRENGTHENED: the fewest PANES (0 to 2) that must be THICK 9 (CRACKS as they are) so that there is a PARADE: "
                + "of several the least as bits; none.");
        GlassCity x = Kit.of("size 6 1");
        Kit.due("160: none", 0, () -> x.strengthen(0, 5, 0, 160));
        Kit.due("161: one", 1, () -> x.strengthen(0, 0, 0, 161));
        Kit.due("161: the last one", 32, () -> x.strengthen(5, 5, 0, 161));
        Kit.due("161: two", 3, () -> x.strengthen(0, 1, 0, 161));
        Kit.due("161: the last two", 48, () -> x.strengthen(5, 4, 0, 161));
        Kit.due("161: three are too many", -1, () -> x.strengthen(0, 2, 0, 161));
        Kit.due("810: one", 1, () -> x.strengthen(0, 0, 0, 810));
        Kit.due("811: none holds that", -1, () -> x.strengthen(0, 0, 0, 811));
        GlassCity y = Kit.of("size 2 2;thick 1 0 1;thick 0 1 1");
        Kit.due("of two ways the least", 2, () -> y.strengthen(0, 3, 0, 11));
        Kit.crack(y, 1, 3);
        Kit.due("broken ones are as they are", 4, () -> y.strengthen(0, 3, 0, 11));
        Kit.crack(y, 2, 2);
        Kit.due("cracks are as they are", 4, () -> y.strengthen(0, 3, 0, 100));
        Kit.same("both ends thick", "2", Kit.city(y, "thick 0 0 9;thick 1 1 9"));
        Kit.due("810 less 60", 4, () -> y.strengthen(0, 3, 0, 750));
        Kit.due("and 1", -1, () -> y.strengthen(0, 3, 0, 751));
        Kit.due("nothing stays", 1, () -> y.pane(2, 0));
        Kit.due("nor is a parade stronger then", -1, () -> y.parade(0, 3, 0, 11, -1));
        Kit.due("nor is one on what was strengthened", -1, () -> y.parade(2, 2, 0, 11, -1));
        Kit.due("nor is the heaviest", -1, () -> y.heaviest(1, 3, 0));
        Kit.due("with 161 by two", 3, () -> x.strengthen(0, 1, 0, 161));
        Kit.due("161 is too much as it is", -1, () -> x.parade(0, 1, 0, 161, -1));
        Kit.due("161 is too much where it is", -1, () -> x.parade(0, 0, 0, 161, -1));
        Kit.due("160 is the most as it is", 160, () -> x.heaviest(0, 5, 0));
        // by {17, 23}, {22, 23}, {22, 28} or {27, 28}
        GlassCity z = Kit.of("size 6 5;thick 4 4 1;thick 5 3 1;thick 3 4 1;thick 4 3 1;thick 5 2 1");
        Kit.due("of four pairs the least", Kit.bits(17, 23), () -> z.strengthen(0, 29, 0, 11));
    }
}
