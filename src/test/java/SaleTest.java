/** Promises 18 to 21: seer, offer, sale, lost. */
public final class SaleTest {
    public static void main(String[] args) {
        seers();
        offers();
        sales();
        ties();
        hidden();
        losses();
        wrong();
        Kit.finish("SaleTest");
    }

    private static void seers() {
        GlassCity x = new GlassCity();
        Kit.due("no seers: all pay", 0, () -> x.sale(12, -1));
        Kit.due("no seer", Kit.BOUNDS, () -> x.sale(12, 0));
        for (int n = 0; n < 6; n++) {
            Kit.due("seer", n, x::seer);
        }
        Kit.due("a 7th", Kit.UNSUPPORTED, x::seer);
        Kit.due("six", 6, () -> x.count(5));
        Kit.same("size", "1", Kit.city(x, "size 1 1"));
        Kit.due("still six", Kit.UNSUPPORTED, x::seer);
    }

    private static void offers() {
        GlassCity x = new GlassCity();
        Kit.due("no seer yet", Kit.BOUNDS, () -> x.offer(0, 0, 1));
        x.seer();
        Kit.due("0 at first", 0, () -> x.offer(0, 8, 99));
        Kit.due("99", 99, () -> x.offer(0, 8, 0));
        Kit.due("0", 0, () -> x.offer(0, 8, 5));
        Kit.due("100", Kit.ARGUMENT, () -> x.offer(0, 8, 100));
        Kit.due("-1", Kit.ARGUMENT, () -> x.offer(0, 8, -1));
        Kit.due("no pane", Kit.BOUNDS, () -> x.offer(0, 9, -1));
        Kit.due("no seer", Kit.BOUNDS, () -> x.offer(1, 8, -1));
        Kit.due("no seer", Kit.BOUNDS, () -> x.offer(-1, 8, 1));
        Kit.due("5", 5, () -> x.offer(0, 8, 5));
        Kit.due("is no act", 0, () -> x.count(8));
    }

    /** A city in which each seer offers a row, by panes. */
    private static GlassCity market(String text, int[]... rows) {
        GlassCity x = Kit.of(text);
        for (int seer = 0; seer < rows.length; seer++) {
            x.seer();
            for (int pane = 0; pane < rows[seer].length; pane++) {
                x.offer(seer, pane, rows[seer][pane]);
            }
        }
        return x;
    }

    private static void sold(String what, GlassCity x, int all, int... panes) {
        Kit.due(what + ": all", all, () -> x.sale(12, -1));
        for (int seer = 0; seer < panes.length; seer++) {
            int s = seer;
            Kit.due(what + ": of seer " + seer, panes[seer], () -> x.sale(12, s));
        }
    }

    private static void sales() {
        sold("one", market("size 3 1", new int[] {3, 9, 8}), 9, 1);
        sold("not the greedy way", market("size 2 1", new int[] {10, 9}, new int[] {8, 0}), 17, 1, 0);
        sold("more seers than panes", market("size 1 1", new int[] {5}, new int[] {7}, new int[] {6}), 7, -1, 0, -1);
        sold("none would pay", market("size 2 1", new int[] {0, 0}, new int[] {0, 0}), 0, -1, -1);
        sold("six", market("size 6 1", new int[] {9, 9, 9, 9, 9, 9}, new int[] {9, 9, 9, 9, 9, 9}, new int[] {9, 9, 9, 9, 9, 9},
                new int[] {9, 9, 9, 9, 9, 9}, new int[] {9, 9, 9, 9, 9, 9}, new int[] {9, 9, 9, 9, 9, 9}), 54, 0, 1, 2, 3, 4, 5);
        GlassCity last = market("size 6 5", new int[] {1});
        last.offer(0, 29, 99);
        sold("the last pane", last, 99, 29);
    }

    private static void ties() {
        sold("the lesser pane", market("size 3 1", new int[] {0, 4, 4}), 4, 1);
        sold("none is first", market("size 1 1", new int[] {4}, new int[] {4}), 4, -1, 0);
        sold("seer 0 first", market("size 2 1", new int[] {4, 4}, new int[] {4, 4}), 8, 0, 1);
        // both 5 and 5, or 6 and 4: seer 0 has the lesser pane
        sold("the first counts most", market("size 2 1", new int[] {5, 4}, new int[] {6, 5}), 10, 0, 1);
        // seer 0 could have none, if 1 and 2 pay as much
        sold("none and the rest", market("size 2 1", new int[] {3, 0}, new int[] {3, 2}, new int[] {2, 2}), 5, -1, 0, 1);
    }

    private static void hidden() {
        GlassCity x = market("size 3 1;owner 1 0 1;lamp 2 0 21", new int[] {5, 50, 4}, new int[] {5, 50, 3});
        Kit.same("law", "1", Kit.shame(x, "hide if owner > 0"));
        sold("hidden panes are not sold", x, 9, 2, 0);
        Kit.due("at night by lamps", 4, () -> x.sale(0, -1));
        Kit.due("at night", 2, () -> x.sale(0, 0));
        Kit.due("at night", -1, () -> x.sale(0, 1));
        Kit.same("size", "2", Kit.city(x, "size 3 1"));
        Kit.due("nothing offered any more", 0, () -> x.sale(12, -1));
    }

    private static void losses() {
        GlassCity x = market("size 2 1", new int[] {10, 0}, new int[] {8, 3}, new int[] {0, 2});
        sold("10 and 3", x, 13, 0, 1, -1);
        Kit.due("without 0: 8 and 2, less 3", 7, () -> x.lost(12, 0));
        Kit.due("without 1: 10 and 2, less 10", 2, () -> x.lost(12, 1));
        Kit.due("without 2: nothing", 0, () -> x.lost(12, 2));
        Kit.due("at night", 0, () -> x.lost(0, 0));
    }

    private static void wrong() {
        GlassCity x = market("size 1 1", new int[] {1});
        Kit.due("no hour", Kit.BOUNDS, () -> x.sale(24, -1));
        Kit.due("no hour", Kit.BOUNDS, () -> x.sale(-1, 0));
        Kit.due("no seer", Kit.BOUNDS, () -> x.sale(12, 1));
        Kit.due("no seer", Kit.BOUNDS, () -> x.sale(12, -2));
        Kit.due("no hour", Kit.BOUNDS, () -> x.lost(24, 0));
        Kit.due("no hour", Kit.BOUNDS, () -> x.lost(-1, 0));
        Kit.due("no seer", Kit.BOUNDS, () -> x.lost(12, 1));
        Kit.due("NONE is no seer", Kit.BOUNDS, () -> x.lost(12, -1));
    }
}
