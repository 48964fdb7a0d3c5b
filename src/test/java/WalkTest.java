/** Promises 23, 24, 29 and 30: weakest, strengthen, parade, heaviest. */
public final class WalkTest {
    public static void main(String[] args) {
        weakest();
        straight();
        waiting();
        firstWay();
        late();
        heaviest();
        strengthened();
        wrong();
        Kit.finish("WalkTest");
    }

    private static void weakest() {
        GlassCity x = Kit.of("size 4 1;thick 1 0 3;thick 2 0 3;cart 100 3 0 5 to 6 felt;cart 2 0 0 7 to 7");
        Kit.due("the first of two", 1, () -> x.weakest(0));
        Kit.due("a load", 3, () -> x.weakest(5));
        Kit.due("156, 90, 90, 160", 1, () -> x.weakest(7));
        x.blow(2, 91);
        Kit.due("a crack", 2, () -> x.weakest(0));
        Kit.due("both 60: the first", 2, () -> x.weakest(5));
        x.blow(2, 999);
        x.blow(2, 999);
        Kit.due("broken: 0", 2, () -> x.weakest(5));
        GlassCity y = Kit.of("size 2 1;cart 150 0 0 5 to 5");
        for (int i = 0; i < 3; i++) {
            y.blow(1, 999);
        }
        Kit.due("below 0 is less than broken", 0, () -> y.weakest(5));
        Kit.due("broken", 1, () -> y.weakest(6));
        Kit.due("no hour", Kit.BOUNDS, () -> y.weakest(24));
        Kit.due("no hour", Kit.BOUNDS, () -> y.weakest(-1));
    }

    private static void way(String what, GlassCity x, int[] call, int... panes) {
        Kit.due(what + ": hours", panes.length - 1, () -> x.parade(call[0], call[1], call[2], call[3], -1));
        for (int k = 0; k < panes.length; k++) {
            int n = k;
            Kit.due(what + ": behind " + k, panes[k], () -> x.parade(call[0], call[1], call[2], call[3], n));
        }
        Kit.due(what + ": behind the end", -1, () -> x.parade(call[0], call[1], call[2], call[3], panes.length));
        Kit.due(what + ": far behind", -1, () -> x.parade(call[0], call[1], call[2], call[3], Integer.MAX_VALUE));
    }

    private static void straight() {
        GlassCity x = Kit.of("size 3 3");
        way("down ahead of right is not first", x, new int[] {0, 8, 12, 160}, 0, 1, 2, 5, 8);
        way("up", x, new int[] {8, 0, 23, 0}, 8, 5, 2, 1, 0);
        way("at once", x, new int[] {4, 4, 0, 160}, 4);
        way("left", x, new int[] {2, 6, 0, 160}, 2, 5, 8, 7, 6);
        Kit.due("too heavy", -1, () -> x.parade(0, 8, 12, 161, -1));
        Kit.due("too heavy at once", -1, () -> x.parade(0, 0, 12, 161, -1));
        Kit.due("too heavy, k", -1, () -> x.parade(0, 0, 12, 161, 0));
    }

    private static void waiting() {
        GlassCity x = Kit.of("size 3 1;cart 100 1 0 20 to 1");
        way("waits by night", x, new int[] {0, 2, 23, 1}, 0, 0, 0, 1, 2);
        way("waits at the first that comes", x, new int[] {0, 2, 20, 160}, 0, 0, 0, 0, 0, 0, 1, 2);
        way("just there ahead of it", x, new int[] {0, 2, 18, 160}, 0, 1, 2);
        Kit.due("it must hold at the first hour", -1, () -> x.parade(1, 2, 23, 0, -1));
        // a cart comes to the first pane at 14: it cannot wait there till 15
        GlassCity y = Kit.of("size 3 1;cart 100 1 0 12 to 14;cart 100 0 0 14 to 14");
        Kit.due("driven out", -1, () -> y.parade(0, 2, 13, 0, -1));
        way("gone ahead", y, new int[] {0, 2, 15, 0}, 0, 1, 2);
    }

    private static void firstWay() {
        // to stay comes first of all, then above
        GlassCity x = Kit.of("size 2 2;cart 100 1 1 1 to 2");
        way("stays first", x, new int[] {0, 3, 0, 100}, 0, 0, 1, 3);
        way("above ahead of right", x, new int[] {2, 1, 0, 100}, 2, 0, 1);
        way("round about", Kit.of("size 3 2;thick 1 1 1"), new int[] {3, 5, 0, 100}, 3, 0, 1, 2, 5);
        way("below ahead of left", Kit.of("size 2 2"), new int[] {1, 2, 0, 100}, 1, 3, 2);
    }

    /** So many hours on each of some panes, one behind another. */
    private static int[] stay(int... paneAndHours) {
        int sum = 0;
        for (int i = 1; i < paneAndHours.length; i += 2) {
            sum += paneAndHours[i];
        }
        int[] panes = new int[sum];
        int at = 0;
        for (int i = 0; i < paneAndHours.length; i += 2) {
            for (int n = 0; n < paneAndHours[i + 1]; n++) {
                panes[at++] = paneAndHours[i];
            }
        }
        return panes;
    }

    private static void late() {
        GlassCity x = Kit.of("size 4 1;cart 200 1 0 1 to 23;cart 200 2 0 2 to 0");
        way("a day", x, new int[] {0, 1, 1, 0}, stay(0, 23, 1, 1));
        way("a day and on", x, new int[] {0, 3, 1, 0}, stay(0, 23, 1, 1, 2, 1, 3, 1));
        GlassCity never = Kit.of("size 3 1;cart 200 1 0 2 to 1");
        Kit.due("never", -1, () -> never.parade(0, 2, 0, 0, -1));
        Kit.due("never", -1, () -> never.heaviest(0, 2, 0));
        // two panes that are free at 0 alone
        GlassCity y = Kit.of("size 6 1;cart 200 1 0 1 to 23;cart 200 3 0 1 to 23");
        way("48 hours", y, new int[] {0, 4, 1, 160}, stay(0, 23, 1, 1, 2, 23, 3, 1, 4, 1));
        Kit.due("49 hours are none", -1, () -> y.parade(0, 5, 1, 160, -1));
        Kit.due("49 hours are none", -1, () -> y.parade(0, 5, 1, 160, 0));
        way("an hour later it is near", y, new int[] {0, 5, 2, 160}, stay(0, 22, 1, 1, 2, 23, 3, 1, 4, 1, 5, 1));
        Kit.due("heaviest within 48 hours", 160, () -> y.heaviest(0, 4, 1));
        Kit.due("heaviest not beyond", -1, () -> y.heaviest(0, 5, 1));
        Kit.due("not with any glass", -1, () -> y.strengthen(0, 5, 1, 500));
        Kit.due("with stronger glass at once", 2, () -> y.strengthen(0, 5, 1, 100));
    }

    private static void heaviest() {
        Kit.due("as at first", 160, () -> new GlassCity().heaviest(0, 8, 12));
        GlassCity x = Kit.of("size 3 1;thick 1 0 3;cart 20 1 0 5 to 5;cart 40 0 0 5 to 5");
        Kit.due("it waits", 90, () -> x.heaviest(0, 2, 6));
        Kit.due("at the first hour, too", 80, () -> x.heaviest(0, 2, 5));
        Kit.due("where it is", 80, () -> x.heaviest(0, 0, 5));
        Kit.due("all thick", 810, () -> Kit.of("size 2 1;thick 0 0 9;thick 1 0 9").heaviest(0, 1, 0));
        GlassCity y = Kit.of("size 2 1;thick 0 0 1;cold 0 0 10");
        Kit.due("0", 0, () -> y.heaviest(0, 1, 0));
        for (int i = 0; i < 3; i++) {
            y.blow(0, 1);
        }
        Kit.due("broken", -1, () -> y.heaviest(0, 1, 0));
        Kit.due("to broken", -1, () -> y.heaviest(1, 0, 0));
        // all weights from 810 down: 810 less a load of up to four carts
        for (int load = 0; load <= 810; load++) {
            StringBuilder text = new StringBuilder("size 1 1;thick 0 0 9");
            for (int left = load; left > 0; left -= 200) {
                text.append(";cart ").append(Math.min(left, 200)).append(" 0 0 5 to 5 felt");
            }
            GlassCity loaded = Kit.of(text.toString());
            Kit.due("heaviest with a load of " + load, 810 - load, () -> loaded.heaviest(0, 0, 5));
        }
        // round about it is longer, but bears more
        GlassCity z = Kit.of("size 3 2;thick 1 0 2");
        Kit.due("round about", 160, () -> z.heaviest(0, 2, 0));
    }

    private static void strengthened() {
        GlassCity x = Kit.of("size 4 2;thick 1 0 2;thick 2 0 2;thick 1 1 2;thick 2 1 2");
        Kit.due("none is needed", 0, () -> x.strengthen(0, 3, 0, 40));
        Kit.due("two", 2 + 4, () -> x.strengthen(0, 3, 0, 41));
        Kit.due("the end, too", 4 + 2, () -> x.strengthen(0, 2, 0, 41));
        for (int i = 0; i < 3; i++) {
            x.blow(1, 999);
        }
        Kit.due("the other two", 32 + 64, () -> x.strengthen(0, 3, 0, 41));
        GlassCity y = Kit.of("size 2 2;thick 1 0 1;thick 0 1 1");
        Kit.due("the least of two", 2, () -> y.strengthen(0, 3, 0, 100));
        Kit.due("both ends", 1 + 2, () -> y.strengthen(0, 1, 0, 170));
        Kit.due("three", -1, () -> y.strengthen(0, 3, 0, 170));
        Kit.due("here", 1, () -> y.strengthen(0, 0, 0, 810));
        Kit.due("too heavy", -1, () -> y.strengthen(0, 0, 0, 811));
        GlassCity z = Kit.of("size 2 1;thick 0 0 9");
        z.blow(1, 999);
        z.blow(1, 999);
        Kit.due("cracks as they are", 2, () -> z.strengthen(0, 1, 0, 750));
        Kit.due("cracks as they are", -1, () -> z.strengthen(0, 1, 0, 751));
        z.blow(1, 999);
        Kit.due("broken", -1, () -> z.strengthen(0, 1, 0, 0));
        Kit.due("nothing changed", 4, () -> z.pane(1, 0));
        // a load with which THICK 9 holds, and with which it does not
        GlassCity w = Kit.of("size 3 1;cart 200 1 0 0 to 23;cart 100 1 0 0 to 12;cart 1 1 0 0 to 23");
        Kit.due("810 at 13: 402 and 408", 2, () -> w.strengthen(0, 2, 13, 158));
        Kit.due("later", 2, () -> w.strengthen(0, 2, 5, 160));
        // the least as bits has the lesser greater one
        GlassCity v = Kit.of("size 3 2;thick 1 0 1;thick 2 0 1;thick 0 1 1;thick 1 1 1");
        Kit.due("three weak ones in each way", -1, () -> v.strengthen(0, 5, 0, 170));
        Kit.due("by 1 and 2, 1 and 4, 3 and 4", 2 + 4, () -> v.strengthen(0, 5, 0, 100));
    }

    private static void wrong() {
        GlassCity x = new GlassCity();
        int[][] none = {{-1, 0, 0}, {9, 0, 0}, {0, -1, 0}, {0, 9, 0}, {0, 0, -1}, {0, 0, 24}};
        for (int[] n : none) {
            Kit.due("parade: there is none", Kit.BOUNDS, () -> x.parade(n[0], n[1], n[2], -1, -2));
            Kit.due("heaviest: there is none", Kit.BOUNDS, () -> x.heaviest(n[0], n[1], n[2]));
            Kit.due("strengthen: there is none", Kit.BOUNDS, () -> x.strengthen(n[0], n[1], n[2], -1));
        }
        for (int weight : new int[] {-1, 1000, Integer.MIN_VALUE, Integer.MAX_VALUE}) {
            Kit.due("parade: weight", Kit.ARGUMENT, () -> x.parade(0, 0, 0, weight, -1));
            Kit.due("strengthen: weight", Kit.ARGUMENT, () -> x.strengthen(0, 0, 0, weight));
        }
        Kit.due("k -2", Kit.ARGUMENT, () -> x.parade(0, 0, 0, 0, -2));
        Kit.due("k is looked at without a way, too", Kit.ARGUMENT, () -> x.parade(0, 0, 0, 999, -2));
        Kit.due("999 is a weight", -1, () -> x.parade(0, 0, 0, 999, -1));
        Kit.due("999 is a weight", -1, () -> x.strengthen(0, 0, 0, 999));
    }
}
