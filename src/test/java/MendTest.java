/** Promises 33 to 36: may, round, mend, rounds. */
public final class MendTest {
    public static void main(String[] args) {
        mayBeClosed();
        rounds();
        firstTen();
        blocked();
        mending();
        Kit.finish("MendTest");
    }

    private static int bits(int... panes) {
        int set = 0;
        for (int pane : panes) {
            set |= 1 << pane;
        }
        return set;
    }

    /** Blows that break nothing beside: no heat is off by 100. */
    private static void crack(GlassCity x, int times, int... panes) {
        x.runs(100);
        for (int pane : panes) {
            for (int i = 0; i < times; i++) {
                x.blow(pane, 999);
            }
        }
    }

    private static void mayBeClosed() {
        GlassCity x = new GlassCity();
        Kit.due("none", true, () -> x.may(0));
        Kit.due("the first", false, () -> x.may(1));
        Kit.due("the last", false, () -> x.may(256));
        Kit.due("all between", false, () -> x.may(254));
        Kit.due("a way is left", true, () -> x.may(bits(3, 4, 6, 7)));
        Kit.due("a slope", false, () -> x.may(bits(2, 4, 6)));
        Kit.due("bits of none count for nothing", true, () -> x.may(-512));
        GlassCity snake = Kit.of("size 3 5");
        Kit.due("a snake", true, () -> snake.may(bits(3, 4, 10, 11)));
        Kit.due("a cut snake", false, () -> snake.may(bits(3, 4, 8, 10, 11)));
        GlassCity back = Kit.of("size 5 3");
        Kit.due("a way up and down", true, () -> back.may(bits(5, 6, 8, 3)) && back.may(bits(1, 6, 8, 13)));
        GlassCity z = new GlassCity();
        crack(z, 3, 4);
        crack(z, 2, 1);
        Kit.due("cracks do not close", true, () -> z.may(0));
        Kit.due("broken ones do", false, () -> z.may(bits(2, 6)));
        crack(z, 1, 1);
        Kit.due("round by 3", true, () -> z.may(0));
        Kit.due("no way", false, () -> z.may(bits(3)));
        GlassCity one = Kit.of("size 1 1");
        Kit.due("one pane", true, () -> one.may(0));
        Kit.due("one pane closed", false, () -> one.may(1));
        crack(one, 3, 0);
        Kit.due("one pane broken", false, () -> one.may(0));
    }

    private static void rounds() {
        GlassCity x = new GlassCity();
        Kit.due("none", 0, x::round);
        Kit.due("no rounds", 0, x::rounds);
        crack(x, 1, 1, 3, 4);
        Kit.due("1 and 4", bits(1, 4), x::round);
        Kit.due("then 3", 2, x::rounds);
        crack(x, 1, 5, 7);
        // one way must be left: by 1 (with 5), or by 3 (with 7)
        Kit.due("three of five", bits(1, 4, 5), x::round);
        Kit.due("then 3 and 7", 2, x::rounds);
        Kit.due("nothing stays", 5, () -> x.count(6));
        crack(x, 1, 0, 8);
        Kit.due("the first and the last are never closed", bits(1, 4, 5), x::round);
        Kit.due("nor do they count", 2, x::rounds);
        GlassCity line = Kit.of("size 5 1");
        crack(line, 1, 0, 1, 2, 3, 4);
        Kit.due("no round in a line", 0, line::round);
        Kit.due("no rounds in a line", 0, line::rounds);
    }

    private static void firstTen() {
        GlassCity x = Kit.of("size 6 5");
        // 24 is the 11th: it is not in the first round
        crack(x, 1, 0, 7, 8, 9, 10, 12, 13, 14, 15, 16, 24);
        Kit.due("of the first ten", bits(7, 8, 9, 10, 12, 13, 14, 15, 16), x::round);
        Kit.due("then the 11th", 2, x::rounds);
        x.mend();
        Kit.due("it comes now", bits(24), x::round);
    }

    private static void blocked() {
        GlassCity x = new GlassCity();
        crack(x, 3, 0);
        crack(x, 1, 4);
        Kit.due("no way at all", 0, x::round);
        Kit.due("no rounds", 0, x::rounds);
        Kit.due("no cracks there", 0, x::mend);
        Kit.due("nothing is mended", 4, () -> x.count(6));
        GlassCity y = new GlassCity();
        crack(y, 3, 4, 1);
        crack(y, 1, 3);
        Kit.due("broken ones are mended with the way by 3", bits(1, 4), y::round);
        Kit.due("then 3", 2, y::rounds);
        GlassCity cut = new GlassCity();
        crack(cut, 3, 2, 4, 6);
        Kit.due("cut through", 0, cut::round);
    }

    private static void mending() {
        GlassCity x = new GlassCity();
        crack(x, 3, 4);
        crack(x, 2, 1);
        crack(x, 1, 3, 0);
        Kit.due("3 and 2", 5, x::mend);
        Kit.due("whole", 0, () -> x.pane(4, 3));
        Kit.due("whole", 0, () -> x.pane(1, 3));
        Kit.due("not yet", 1, () -> x.pane(3, 3));
        Kit.due("then 1", 1, x::mend);
        int acts = x.count(8);
        Kit.due("then none", 0, x::mend);
        Kit.due("the first one has its crack", 1, () -> x.count(6));
        Kit.due("each is an act", acts + 1, () -> x.count(8));
        Kit.due("undone", true, x::undo);
        Kit.due("undone", true, x::undo);
        Kit.due("3 has its crack", 1, () -> x.pane(3, 3));
        Kit.due("undone", true, x::undo);
        Kit.due("broken as it was", 3, () -> x.pane(4, 3));
    }
}
