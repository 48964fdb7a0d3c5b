/** Promises 26 to 28: blow, would, trace. */
public final class BlowTest {
    public static void main(String[] args) {
        alone();
        running();
        sides();
        broken();
        borders();
        traces();
        traceAgainstWould();
        wrong();
        Kit.finish("BlowTest");
    }

    private static void alone() {
        GlassCity x = new GlassCity();
        Kit.due("what it bears", 0, () -> x.blow(4, 160));
        Kit.due("one more", 1, () -> x.blow(4, 161));
        Kit.due("cracks", 1, () -> x.pane(4, 3));
        Kit.due("it bears 130", 0, () -> x.blow(4, 130));
        Kit.due("131", 1, () -> x.blow(4, 131));
        Kit.due("cracks of all", 2, () -> x.count(6));
        Kit.due("999", 1, () -> x.blow(4, 999));
        Kit.due("broken", 1, () -> x.count(7));
        Kit.due("each is an act", 5, () -> x.count(8));
    }

    private static void running() {
        // heat: 10 25 5, thick 4 3 2: from 0 to 1 (off 15), to 2 (off 20)
        GlassCity x = Kit.of("size 3 1;heat 1 0 25;thick 1 0 3;heat 2 0 5;thick 2 0 2");
        Kit.due("left 15 is not above 15", 1, () -> x.would(0, 175));
        Kit.due("left 16 is", 3, () -> x.would(0, 176));
        Kit.due("left 10 is not above 10", 3, () -> x.would(0, 185));
        Kit.due("left 11 is", 7, () -> x.would(0, 186));
        Kit.due("nothing changed", 0, () -> x.count(6));
        Kit.due("nor is it an act", 0, () -> x.count(8));
        x.runs(16);
        Kit.due("off 15 is below 16", 1, () -> x.would(0, 999));
        x.runs(15);
        Kit.due("off 15 is 15", 7, () -> x.would(0, 999));
        Kit.due("how many", 3, () -> x.blow(0, 186));
        Kit.due("one each", 3, () -> x.count(6));
        // pane 1 bears 60 now; those beside it have cracks already
        Kit.due("it stops at cracks", 2, () -> x.would(1, 999));
        Kit.due("what bears less", 0, () -> x.would(1, 60));
        Kit.due("undone", true, x::undo);
        Kit.due("none", 0, () -> x.count(6));
        // it goes on by the heat of the latest one, not of the first
        GlassCity y = Kit.of("size 4 1;heat 1 0 20;heat 2 0 30;heat 3 0 39");
        Kit.due("10, 20, 30, 39", 7, () -> y.would(0, 999));
    }

    private static void sides() {
        GlassCity x = Kit.of("heat 1 0 30;heat 2 1 30;heat 1 2 30;cold 0 1 10");
        x.runs(20);
        Kit.due("four are off 20: above", 16 + 2, () -> x.would(4, 181));
        Kit.same("text", "2", Kit.city(x, "heat 1 0 29"));
        Kit.due("above is off less: right", 16 + 32, () -> x.would(4, 181));
        Kit.same("text", "3", Kit.city(x, "heat 2 1 29"));
        Kit.due("right is off less: below", 16 + 128, () -> x.would(4, 181));
        Kit.same("text", "4", Kit.city(x, "heat 1 2 29"));
        Kit.due("below is off less: left", 16 + 8, () -> x.would(4, 181));
        Kit.same("text", "5", Kit.city(x, "heat 2 1 31;thick 2 1 9"));
        Kit.due("what LEFT is too little for does not count", 16 + 8 + 1, () -> x.would(4, 205));
        Kit.due("LEFT is above 45", 16 + 32, () -> x.would(4, 206));
        Kit.same("text", "6", Kit.city(x, "size 6 5"));
        x.runs(0);
        // nothing is off: always above, then right, below, left; each costs 20
        Kit.due("above, above, right", bits(14, 8, 2, 3), () -> x.would(14, 160 + 61));
        Kit.due("then below ahead of left", bits(14, 8, 2, 3, 4, 5, 11, 17, 23, 29), () -> x.would(14, 160 + 181));
    }

    private static int bits(int... panes) {
        int set = 0;
        for (int pane : panes) {
            set |= 1 << pane;
        }
        return set;
    }

    private static void broken() {
        GlassCity x = Kit.of("size 3 1;heat 1 0 30;heat 2 0 50;thick 0 0 1");
        for (int i = 0; i < 3; i++) {
            x.runs(100);
            Kit.due("a crack", 1, () -> x.blow(0, 999));
        }
        x.runs(10);
        Kit.due("broken gets none, but it runs on", 2, () -> x.would(0, 21));
        Kit.due("LEFT is all of the FORCE", 0, () -> x.would(0, 20));
        Kit.due("to the next", 2 + 4, () -> x.would(0, 41));
        Kit.due("how many", 2, () -> x.blow(0, 41));
        Kit.due("still 3", 3, () -> x.pane(0, 3));
    }

    private static void borders() {
        // the last of a row and the first of the next are not beside one another
        GlassCity x = Kit.of("size 3 2;heat 0 1 60");
        Kit.due("2 is not beside 3", 4, () -> x.would(2, 999));
        GlassCity y = Kit.of("size 1 3;heat 0 1 60");
        Kit.due("one wide", 7, () -> y.would(0, 999));
        GlassCity z = Kit.of("size 1 1");
        Kit.due("one alone", 1, () -> z.would(0, 999));
    }

    private static void traces() {
        GlassCity x = Kit.of("size 3 1;heat 1 0 25;thick 1 0 3;heat 2 0 5;thick 2 0 2");
        // by pane 0: 161 to 175 {0}; 176 to 185 {0, 1}; from 186 on all. by 1: 91 to 100 {1}; from 101 on {1, 2}
        // or, above 110, still 2 as it is off 20. by 2: 41 to 55 {2}; 56 to 75 {1, 2}; from 76 on all
        Kit.due("{0}", 15, () -> x.trace(1, 300, false));
        Kit.due("{0} first", 161, () -> x.trace(1, 300, true));
        Kit.due("{0} to 170", 10, () -> x.trace(1, 170, false));
        Kit.due("{0} to 161", 1, () -> x.trace(1, 161, false));
        Kit.due("{0} to 160", 0, () -> x.trace(1, 160, false));
        Kit.due("{0} first to 161", 161, () -> x.trace(1, 161, true));
        Kit.due("{0} first to 160", -1, () -> x.trace(1, 160, true));
        Kit.due("none to 1", 3, () -> x.trace(0, 1, false));
        Kit.due("{0, 1} to 176", 1, () -> x.trace(3, 176, false));
        Kit.due("{0, 1}", 10, () -> x.trace(3, 300, false));
        Kit.due("{0, 1} first", 176, () -> x.trace(3, 300, true));
        Kit.due("{1} first", 1091, () -> x.trace(2, 300, true));
        Kit.due("{1}", 10, () -> x.trace(2, 300, false));
        Kit.due("{1, 2} first", 1101, () -> x.trace(6, 300, true));
        Kit.due("{1, 2}", 200 + 20, () -> x.trace(6, 300, false));
        Kit.due("{2}", 15, () -> x.trace(4, 300, false));
        Kit.due("all", 115 + 225, () -> x.trace(7, 300, false));
        Kit.due("all first", 186, () -> x.trace(7, 300, true));
        Kit.due("all first to 185", 2076, () -> x.trace(7, 185, true));
        Kit.due("all first to 75", -1, () -> x.trace(7, 75, true));
        Kit.due("all to 75", 0, () -> x.trace(7, 75, false));
        Kit.due("{0, 2}", 0, () -> x.trace(5, 300, false));
        Kit.due("{0, 2} first", -1, () -> x.trace(5, 300, true));
        Kit.due("none", 160 + 90 + 40, () -> x.trace(0, 300, false));
        Kit.due("none first", 1, () -> x.trace(0, 300, true));
        Kit.due("bits of none count for nothing", 15, () -> x.trace(-8 + 1, 300, false));
        Kit.due("nothing changed", 0, () -> x.count(6) + x.count(8));
        GlassCity frail = Kit.of("size 2 1;thick 0 0 1;cold 0 0 10");
        Kit.due("what bears nothing", 1001, () -> frail.trace(0, 300, true));
        Kit.due("what bears nothing", 1, () -> frail.trace(1, 300, true) % 1000);
        x.runs(100);
        for (int i = 0; i < 3; i++) {
            x.blow(0, 999);
        }
        Kit.due("broken: all forces do nothing", 300 + 90 + 40, () -> x.trace(0, 300, false));
    }

    private static void traceAgainstWould() {
        GlassCity x = Kit.of("size 4 3;heat 1 0 25;thick 1 0 1;heat 2 0 5;thick 2 0 2;thick 0 0 1;cold 1 1 20;heat 2 1 40;thick 1 2 3;thick 0 1 2");
        for (int i = 0; i < 3; i++) {
            x.blow(0, 15);
        }
        x.runs(5);
        int[][] gives = new int[12][121];
        for (int pane = 0; pane < 12; pane++) {
            for (int force = 1; force <= 120; force++) {
                gives[pane][force] = x.would(pane, force);
            }
        }
        for (int set = 0; set < 1 << 12; set++) {
            int sum = 0;
            int first = -1;
            for (int pane = 0; pane < 12; pane++) {
                for (int force = 1; force <= 120; force++) {
                    if (gives[pane][force] == set) {
                        sum++;
                        first = first == -1 ? 1000 * pane + force : first;
                    }
                }
            }
            int s = set;
            Kit.due("trace " + set, sum, () -> x.trace(s, 120, false));
            Kit.due("trace first " + set, first, () -> x.trace(s, 120, true));
        }
    }

    private static void wrong() {
        GlassCity x = new GlassCity();
        for (int force : new int[] {0, 1000, -1, Integer.MIN_VALUE, Integer.MAX_VALUE}) {
            Kit.due("blow of " + force, Kit.ARGUMENT, () -> x.blow(0, force));
            Kit.due("would of " + force, Kit.ARGUMENT, () -> x.would(0, force));
        }
        for (int pane : new int[] {-1, 9, Integer.MIN_VALUE, Integer.MAX_VALUE}) {
            Kit.due("blow on " + pane, Kit.BOUNDS, () -> x.blow(pane, 0));
            Kit.due("would on " + pane, Kit.BOUNDS, () -> x.would(pane, 0));
        }
        for (int most : new int[] {0, 301, -1, Integer.MIN_VALUE, Integer.MAX_VALUE}) {
            Kit.due("trace to " + most, Kit.ARGUMENT, () -> x.trace(0, most, true));
            Kit.due("trace to " + most, Kit.ARGUMENT, () -> x.trace(0, most, false));
        }
        Kit.due("no act", 0, () -> x.count(8));
    }
}
