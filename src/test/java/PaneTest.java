/** Promises 7 to 13: pane, cart, strew, runs, load, holds, breaks. */
public final class PaneTest {
    private static final int LEAST = Integer.MIN_VALUE;
    private static final int GREATEST = Integer.MAX_VALUE;

    public static void main(String[] args) {
        panes();
        bears();
        carts();
        strewing();
        running();
        loads();
        holding();
        Kit.finish("PaneTest");
    }

    private static void panes() {
        GlassCity x = Kit.of("size 2 1;thick 1 0 9;cold 1 0 7;sand 1 0 33;owner 1 0 5;lamp 1 0 21");
        int[] due = {9, -7, 33, 0, 5, 21, 803};
        for (int what = 0; what < due.length; what++) {
            int w = what;
            Kit.due("pane 1, " + what, due[what], () -> x.pane(1, w));
        }
        for (int what : new int[] {-1, 7, LEAST, GREATEST}) {
            Kit.due("pane what " + what, Kit.ELEMENT, () -> x.pane(0, what));
        }
        for (int pane : new int[] {-1, 2, LEAST, GREATEST}) {
            Kit.due("no pane " + pane, Kit.BOUNDS, () -> x.pane(pane, 9));
        }
    }

    private static void bears() {
        GlassCity x = Kit.of("size 3 1;thick 0 0 1;cold 0 0 12;thick 1 0 2;heat 1 0 60;thick 2 0 1;cold 2 0 10");
        Kit.due("10 less 12 is 0", 0, () -> x.pane(0, 6));
        Kit.due("heat does not count", 40, () -> x.pane(1, 6));
        Kit.due("10 less 10", 0, () -> x.pane(2, 6));
        x.blow(1, 41);
        Kit.due("one crack", 10, () -> x.pane(1, 6));
        x.blow(1, 11);
        Kit.due("two cracks", 0, () -> x.pane(1, 6));
        Kit.due("no less than broken", 2, () -> x.pane(1, 3));
        x.blow(1, 1);
        Kit.due("broken", 3, () -> x.pane(1, 3));
        Kit.due("broken bears 0", 0, () -> x.pane(1, 6));
        GlassCity y = Kit.of("size 1 1;thick 0 0 9;cold 0 0 3");
        y.blow(0, 999);
        Kit.due("810 less 33", 777, () -> y.pane(0, 6));
        y.blow(0, 999);
        Kit.due("810 less 63", 747, () -> y.pane(0, 6));
        y.blow(0, 999);
        Kit.due("thick, but broken", 0, () -> y.pane(0, 6));
    }

    private static void carts() {
        GlassCity x = Kit.of("size 4 2;cart 7 3 1 5 to 9;cart 200 0 0 23 to 1 felt");
        int[][] due = {{7, 7, 5, 9, 0}, {200, 0, 23, 1, 1}};
        for (int cart = 0; cart < 2; cart++) {
            for (int what = 0; what < 5; what++) {
                int c = cart;
                int w = what;
                Kit.due("cart " + cart + ", " + what, due[cart][what], () -> x.cart(c, w));
            }
        }
        for (int what : new int[] {-1, 5, LEAST, GREATEST}) {
            Kit.due("cart what " + what, Kit.ELEMENT, () -> x.cart(0, what));
        }
        for (int cart : new int[] {-1, 2, LEAST, GREATEST}) {
            Kit.due("no cart " + cart, Kit.BOUNDS, () -> x.cart(cart, 9));
        }
    }

    private static void strewing() {
        GlassCity x = Kit.of("size 2 2;sand 1 1 9");
        Kit.due("what it was", 9, () -> x.strew(3, 100));
        Kit.due("what it is", 100, () -> x.strew(3, 0));
        Kit.due("0 is sand", 0, () -> x.strew(3, 40));
        Kit.due("of all", 40, () -> x.count(9));
        Kit.due("101", Kit.ARGUMENT, () -> x.strew(3, 101));
        Kit.due("-1", Kit.ARGUMENT, () -> x.strew(3, -1));
        Kit.due("no pane first", Kit.BOUNDS, () -> x.strew(4, 101));
        Kit.due("no pane", Kit.BOUNDS, () -> x.strew(-1, 1));
        Kit.due("three acts", 3, () -> x.count(8));
        Kit.due("sand as it was", 40, () -> x.pane(3, 2));
    }

    private static void running() {
        GlassCity x = new GlassCity();
        Kit.due("10 at first", 10, () -> x.runs(0));
        Kit.due("0", 0, () -> x.runs(100));
        Kit.due("101", Kit.ARGUMENT, () -> x.runs(101));
        Kit.due("-1", Kit.ARGUMENT, () -> x.runs(-1));
        Kit.due("100", 100, () -> x.runs(55));
        Kit.same("a size", "1", Kit.city(x, "size 2 2"));
        Kit.due("stays", 55, () -> x.runs(1));
        Kit.due("is no act", 0, () -> x.count(8));
    }

    private static void loads() {
        GlassCity x = Kit.of("size 2 1;cart 10 0 0 5 to 7;cart 3 0 0 7 to 5 felt;cart 200 1 0 4 to 4;cart 1 0 0 22 to 1");
        int[] due = new int[24];
        for (int hour = 0; hour < 24; hour++) {
            due[hour] += hour >= 5 && hour <= 7 ? 20 : 0;
            due[hour] += hour != 6 ? 3 : 0;
            due[hour] += hour >= 22 || hour <= 1 ? 2 : 0;
            int h = hour;
            Kit.due("load at " + hour, due[hour], () -> x.load(0, h));
            Kit.due("load of the other at " + hour, hour == 4 ? 400 : 0, () -> x.load(1, h));
        }
        Kit.due("no hour 24", Kit.BOUNDS, () -> x.load(0, 24));
        Kit.due("no hour -1", Kit.BOUNDS, () -> x.load(0, -1));
        Kit.due("no pane 2", Kit.BOUNDS, () -> x.load(2, 0));
        Kit.due("no pane -1", Kit.BOUNDS, () -> x.load(-1, 0));
    }

    private static void holding() {
        GlassCity x = Kit.of("size 3 1;cart 30 0 0 5 to 7;thick 1 0 1;cold 1 0 10;cart 81 2 0 6 to 6");
        Kit.due("60 and 100 are 160", true, () -> x.holds(0, 6, 100));
        Kit.due("60 and 101 are more", false, () -> x.holds(0, 6, 101));
        Kit.due("at another hour", true, () -> x.holds(0, 8, 160));
        Kit.due("0 holds 0", true, () -> x.holds(1, 6, 0));
        Kit.due("0 holds no 1", false, () -> x.holds(1, 6, 1));
        Kit.due("999", false, () -> x.holds(1, 6, 999));
        Kit.due("1000", Kit.ARGUMENT, () -> x.holds(1, 6, 1000));
        Kit.due("-1", Kit.ARGUMENT, () -> x.holds(1, 6, -1));
        Kit.due("no pane first", Kit.BOUNDS, () -> x.holds(3, 6, -1));
        Kit.due("no hour first", Kit.BOUNDS, () -> x.holds(0, 24, -1));
        Kit.due("162 is above 160", 4, () -> x.breaks(6));
        Kit.due("none breaks", 0, () -> x.breaks(5));
        for (int i = 0; i < 3; i++) {
            x.blow(1, 1);
        }
        Kit.due("broken does not hold 0", false, () -> x.holds(1, 5, 0));
        Kit.due("broken", 2, () -> x.breaks(5));
        Kit.due("both", 6, () -> x.breaks(6));
        Kit.due("no hour", Kit.BOUNDS, () -> x.breaks(24));
        Kit.due("no hour", Kit.BOUNDS, () -> x.breaks(-1));
    }
}
