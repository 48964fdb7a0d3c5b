/** Terms, ==== 2: light, bills, what is seen, sales, shares: each sentence with its edges. */
public final class EdgesOfLightTest {
    public static void main(String[] args) {
        letDown();
        kept();
        below();
        bills();
        seen();
        loadAndLight();
        fined();
        seers();
        sales();
        firstSales();
        losses();
        costs();
        given();
        shares();
        leftOver();
        Kit.finish("EdgesOfLightTest");
    }

    private static int sun(int hour) {
        return hour < 6 || hour > 18 ? 0 : 100 - 12 * Math.abs(hour - 12);
    }

    private static void letDown() {
        Kit.sentence("LET DOWN by a PANE at an hour: SUN times (100 less SAND) by 100, that times (12 less THICK) by 12, each rounded down; "
                + "less 5 for each CRACK, 0 at least.");
        for (int thick = 1; thick <= 9; thick++) {
            for (int sand : new int[] {0, 1, 33, 50, 67, 99, 100}) {
                GlassCity x = Kit.of("size 1 1;thick 0 0 " + thick + ";sand 0 0 " + sand);
                for (int cracks = 0; cracks <= 3; cracks++) {
                    for (int hour = 0; hour < 24; hour++) {
                        int h = hour;
                        int through = (int) Math.floor(Math.floor(sun(hour) * (100 - sand) / 100.0) * (12 - thick) / 12.0 + 1e-9);
                        int due = Math.max(0, through - 5 * cracks);
                        Kit.due("thick " + thick + " sand " + sand + " cracks " + cracks + " at " + hour, due, () -> x.light(0, h, 0));
                    }
                    Kit.crack(x, 0, 1);
                }
            }
        }
        // 28 * 55 / 100 is 15.4: 15, and 15 * 8 / 12 is 10: two cracks take all of it, a third takes no more
        GlassCity y = Kit.of("size 1 1;sand 0 0 45");
        int[] due = {10, 5, 0, 0};
        for (int n = 0; n <= 3; n++) {
            Kit.due("with " + n + " cracks", due[n], () -> y.light(0, 6, 0));
            Kit.crack(y, 0, 1);
        }
    }

    private static void kept() {
        Kit.sentence("KEPT: SUN less that.");
        GlassCity x = Kit.of("size 2 1;sand 0 0 100;lamp 0 0 99;lamp 1 0 99");
        Kit.due("all", 100, () -> x.light(0, 12, 1));
        Kit.due("a lamp counts for nothing", 34, () -> x.light(1, 12, 1));
        Kit.due("at night none", 0, () -> x.light(0, 0, 1));
        Kit.crack(x, 1, 3);
        Kit.due("cracks keep", 49, () -> x.light(1, 12, 1));
        Kit.due("not more than there is", 28, () -> x.light(1, 6, 0) + x.light(1, 6, 1));
    }

    private static void below() {
        Kit.sentence("LIGHT below: what is LET DOWN, and the LAMP.");
        GlassCity x = Kit.of("size 2 1;thick 0 0 1;lamp 0 0 99");
        Kit.due("the most there can be", 91 + 99, () -> x.light(0, 12, 2));
        Kit.due("the lamp alone", 99, () -> x.light(0, 23, 2));
        Kit.due("none", 0, () -> x.light(1, 23, 2));
    }

    private static void bills() {
        Kit.sentence("BILL of an OWNER at an hour: of all PANES that are his LET DOWN, times a PRICE, by 10, rounded down (of all together).");
        GlassCity x = Kit.of("owner 2 2 7;lamp 2 2 99");
        Kit.due("8 times 66 by 10", 52, () -> x.bill(0, 12, 1));
        Kit.due("66 by 10", 6, () -> x.bill(7, 12, 1));
        Kit.due("lamps are not let down", 0, () -> x.bill(7, 5, 999));
        Kit.due("one without panes", 0, () -> x.bill(6, 12, 999));
        Kit.due("a price of 0", 0, () -> x.bill(0, 12, 0));
        GlassCity y = Kit.of("size 6 5");
        Kit.due("all of the greatest city at the highest price", 30 * 66 * 999 / 10, () -> y.bill(0, 12, 999));
        Kit.same("the last is another's", "2", Kit.city(y, "owner 5 4 1"));
        Kit.due("29 of 30", 29 * 66 * 999 / 10, () -> y.bill(0, 12, 999));
        Kit.due("the last", 66 * 999 / 10, () -> y.bill(1, 12, 999));
    }

    private static void seen() {
        Kit.sentence("SEEN through a PANE at an hour: by SHAME: its first hide or show LINE that holds is show; "
                + "without such a LINE: LIGHT below is above 20.");
        GlassCity x = Kit.of("size 3 1;lamp 0 0 20;lamp 1 0 21");
        String[] laws = {"", "fine 5", "hide if 0 > 1", "show if 0 > 1;hide if 1 > 2;fine 3"};
        for (int n = -1; n < laws.length; n++) {
            if (n >= 0) {
                Kit.shame(x, laws[n]);
            }
            Kit.due("0 by law " + n, false, () -> x.seen(2, 0));
            Kit.due("20 by law " + n, false, () -> x.seen(0, 0));
            Kit.due("21 by law " + n, true, () -> x.seen(1, 0));
        }
        Kit.shame(x, "hide if 0 > 1;".repeat(11) + "show");
        Kit.due("the 12th shows", true, () -> x.seen(2, 0));
        Kit.shame(x, "fine 1;".repeat(11) + "hide");
        Kit.due("the 12th hides", false, () -> x.seen(1, 0));
        Kit.shame(x, "show;" + "hide;".repeat(10) + "hide");
        Kit.due("the first shows", true, () -> x.seen(2, 0));
        Kit.shame(x, "hide;" + "show;".repeat(10) + "show");
        Kit.due("the first hides", false, () -> x.seen(1, 0));
    }

    private static void loadAndLight() {
        Kit.sentence("(load: LOAD at that hour; light: LIGHT below.)");
        GlassCity x = Kit.of("size 2 1;lamp 0 0 9;cart 20 0 0 22 to 6");
        Kit.shame(x, "show if load > 39 and light < 10");
        Kit.due("at 22", true, () -> x.seen(0, 22));
        Kit.due("at 21 there is no load", false, () -> x.seen(0, 21));
        Kit.due("another pane", false, () -> x.seen(1, 22));
        Kit.due("at 5", true, () -> x.seen(0, 5));
        Kit.shame(x, "show if load > 39 and light > 26;hide");
        Kit.due("at 6: 18 and 9", true, () -> x.seen(0, 6));
        Kit.due("at 7 there is no load", false, () -> x.seen(0, 7));
        Kit.shame(x, "show if light > 27;hide");
        Kit.due("at 6: not above 27", false, () -> x.seen(0, 6));
    }

    private static void fined() {
        Kit.sentence("FINED: the sum of all fine LINES that hold, if it is SEEN; else 0.");
        GlassCity x = Kit.of("size 2 1;lamp 0 0 21;lamp 1 0 20");
        Kit.due("without a law", 0, () -> x.fined(0, 0));
        Kit.shame(x, "fine 999;".repeat(11) + "fine 999");
        Kit.due("twelve of the highest", 11988, () -> x.fined(0, 0));
        Kit.due("not seen", 0, () -> x.fined(1, 0));
        Kit.shame(x, "fine 1 if hour < 1;fine 2 if hour < 0;fine 4;hide if hour > 22;fine 8 if hour > 22");
        Kit.due("those that hold", 5, () -> x.fined(0, 0));
        Kit.due("hidden", 0, () -> x.fined(0, 23));
        Kit.shame(x, "hide;fine 9");
        Kit.due("hidden", 0, () -> x.fined(0, 12));
        Kit.shame(x, "fine 0;fine 9;show");
        Kit.due("a fine ahead of the show, and one of 0", 9, () -> x.fined(1, 0));
        Kit.shame(x, "");
        Kit.due("no LINES", 0, () -> x.fined(0, 0));
    }

    private static void seers() {
        Kit.sentence("SEERS (at most 6, numbered from 0 on): how much each would pay for each PANE (0 to 99; 0 at first).");
        GlassCity x = Kit.of("size 6 5");
        for (int n = 0; n < 6; n++) {
            Kit.due("a seer", n, x::seer);
        }
        Kit.due("a 7th", Kit.UNSUPPORTED, x::seer);
        for (int n = 0; n < 6; n++) {
            for (int p = 0; p < 30; p++) {
                int seer = n;
                int pane = p;
                Kit.due("at first", 0, () -> x.offer(seer, pane, 3 * seer + pane));
            }
        }
        for (int n = 0; n < 6; n++) {
            for (int p = 0; p < 30; p++) {
                int seer = n;
                int pane = p;
                Kit.due("each of its own", 3 * n + p, () -> x.offer(seer, pane, 99));
            }
        }
        Kit.due("100", Kit.ARGUMENT, () -> x.offer(5, 29, 100));
        Kit.due("-1", Kit.ARGUMENT, () -> x.offer(5, 29, -1));
        Kit.due("99", 99, () -> x.offer(5, 29, 0));
    }

    private static GlassCity market(String text, int[]... rows) {
        GlassCity x = Kit.of(text);
        for (int seer = 0; seer < rows.length; seer++) {
            x.seer();
            for (int pane = 0; pane < rows[seer].length; pane++) {
                x.offer(seer, pane, rows[seer][pane]);
            }
        }
        return x;
    }

    private static void sold(String what, GlassCity x, int all, int... panes) {
        Kit.due(what + ": all", all, () -> x.sale(12, -1));
        for (int seer = 0; seer < panes.length; seer++) {
            int s = seer;
            Kit.due(what + ": seer " + seer, panes[seer], () -> x.sale(12, s));
        }
    }

    private static void sales() {
        Kit.sentence("SALE at an hour: PANES that are SEEN through are sold, each to one SEER at most, each SEER one at most: "
                + "so that all pay the most together;");
        sold("no seers", new GlassCity(), 0);
        sold("nothing offered", market("size 2 1", new int[2], new int[2]), 0, -1, -1);
        sold("the least pay", market("size 2 1", new int[] {0, 1}), 1, 1);
        sold("the most that can be paid", market("size 6 5", row(24), row(25), row(26), row(27), row(28), row(29)), 594, 24, 25, 26, 27, 28, 29);
        sold("one pane, many seers", market("size 1 1", new int[] {1}, new int[] {99}, new int[] {98}), 99, -1, 0, -1);
        sold("one seer, many panes", market("size 3 1", new int[] {98, 99, 97}), 99, 1);
        sold("1 more by a change of both", market("size 2 1", new int[] {50, 49}, new int[] {50, 48}), 99, 1, 0);
        GlassCity x = market("size 2 1;lamp 0 0 20;lamp 1 0 21", new int[] {99, 1});
        Kit.due("20 is not seen", 1, () -> x.sale(0, -1));
        Kit.due("21 is", 1, () -> x.sale(0, 0));
        Kit.shame(x, "hide");
        Kit.due("nothing is seen", 0, () -> x.sale(12, -1));
        Kit.due("none", -1, () -> x.sale(12, 0));
        Kit.shame(x, "show if thick > 0");
        Kit.due("all is seen", 99, () -> x.sale(0, -1));
    }

    private static int[] row(int pane) {
        int[] row = new int[30];
        row[pane] = 99;
        return row;
    }

    private static void firstSales() {
        Kit.sentence("of several the first (by what SEER 0 has: none, or the lesser PANE, then SEER 1, ..).");
        sold("none ahead of a pane", market("size 1 1", new int[] {1}, new int[] {1}, new int[] {1}), 1, -1, -1, 0);
        sold("the lesser pane", market("size 3 1", new int[] {0, 7, 7}), 7, 1);
        sold("seer 0 ahead of seer 1", market("size 2 1", new int[] {7, 7}, new int[] {7, 7}), 14, 0, 1);
        sold("none for what is worth nothing", market("size 2 1", new int[] {0, 0}, new int[] {5, 5}), 5, -1, 0);
        // 0 and 1 are as good by 1 and 0; or 0 has none, and 2 has the other
        sold("none for seer 0, then the lesser pane", market("size 2 1", new int[] {3, 3}, new int[] {3, 3}, new int[] {3, 3}), 6, -1, 0, 1);
        int[] same = {9, 9, 9, 9, 9, 9};
        sold("all the same", market("size 6 1", same, same, same, same, same, same), 54, 0, 1, 2, 3, 4, 5);
        sold("all the same, one pane less", market("size 5 1", same(5), same(5), same(5), same(5), same(5), same(5)), 45, -1, 0, 1, 2, 3, 4);
        // the last panes, so that every place counts
        int[] late = new int[30];
        late[28] = 99;
        late[29] = 99;
        sold("of the last", market("size 6 5", late, late, late, late, late, late), 198, -1, -1, -1, -1, 28, 29);
    }

    private static int[] same(int n) {
        int[] row = new int[n];
        java.util.Arrays.fill(row, 9);
        return row;
    }

    private static void losses() {
        Kit.sentence("LOST by others, as a SEER is there: what all others together would pay by a SALE without that one, "
                + "less what they pay by the SALE.");
        GlassCity alone = market("size 1 1", new int[] {99});
        Kit.due("no others", 0, () -> alone.lost(12, 0));
        GlassCity x = market("size 1 1", new int[] {98}, new int[] {99}, new int[] {0});
        Kit.due("one who has none takes nothing", 0, () -> x.lost(12, 0));
        Kit.due("98 could have been paid", 98, () -> x.lost(12, 1));
        Kit.due("one who offers nothing", 0, () -> x.lost(12, 2));
        Kit.due("nothing is seen at night", 0, () -> x.lost(0, 1));
        // 0 has pane 1 for 9 and 1 has pane 0 for 8; without 0 it is 8, without 1 it is 10
        GlassCity y = market("size 2 1", new int[] {10, 9}, new int[] {8, 0});
        Kit.due("without 0 the other pays as much", 0, () -> y.lost(12, 0));
        Kit.due("without 1: 10, less 9", 1, () -> y.lost(12, 1));
        GlassCity six = market("size 5 1", same(5), same(5), same(5), same(5), same(5), same(5));
        for (int n = 0; n < 6; n++) {
            int seer = n;
            Kit.due("six for five panes", n == 0 ? 0 : 9, () -> six.lost(12, seer));
        }
    }

    private static void costs() {
        Kit.sentence("SHARE of an OWNER in what a new lamp below a PANE costs (0 to 9999)");
        GlassCity x = Kit.of("size 1 1;owner 0 0 7");
        Kit.due("0", 0, () -> x.share(0, 7, 0));
        Kit.due("1", 1, () -> x.share(0, 7, 1));
        Kit.due("9999", 9999, () -> x.share(0, 7, 9999));
        Kit.due("10000", Kit.ARGUMENT, () -> x.share(0, 7, 10000));
        Kit.due("-1", Kit.ARGUMENT, () -> x.share(0, 7, -1));
        Kit.due("another owner", 0, () -> x.share(0, 6, 9999));
    }

    private static void given() {
        Kit.sentence("it gives 50 below that PANE, 25 below each beside it (as below)");
        GlassCity x = Kit.of("owner 0 0 1;owner 1 0 2;owner 1 1 3;owner 0 1 4;owner 2 1 5;owner 1 2 6");
        Kit.due("corner: itself", 50, () -> x.share(0, 1, 100));
        Kit.due("corner: right", 25, () -> x.share(0, 2, 100));
        Kit.due("corner: below", 25, () -> x.share(0, 4, 100));
        Kit.due("corner: not across", 0, () -> x.share(0, 3, 100));
        Kit.due("edge: itself", 50, () -> x.share(1, 2, 125));
        Kit.due("edge: left", 25, () -> x.share(1, 1, 125));
        Kit.due("edge: right", 25, () -> x.share(1, 0, 125));
        Kit.due("edge: below", 25, () -> x.share(1, 3, 125));
        int[] middle = {0, 0, 25, 50, 25, 25, 25, 0};
        for (int owner = 0; owner < 8; owner++) {
            int o = owner;
            Kit.due("middle: " + owner, middle[owner], () -> x.share(4, o, 150));
        }
    }

    private static void shares() {
        Kit.sentence("each OWNER pays of the cost by what it gives below PANES of his, rounded down;");
        GlassCity x = Kit.of("size 2 1;owner 0 0 7;owner 1 0 1");
        // 50 of 75 and 25 of 75
        Kit.due("66 and two thirds", 66, () -> x.share(0, 7, 100));
        Kit.due("33 and one third, and what is left over", 34, () -> x.share(0, 1, 100));
        Kit.due("no part of 1", 0, () -> x.share(0, 7, 1));
        Kit.due("what he owns beside counts, too", 9999, () -> Kit.of("size 2 1").share(1, 0, 9999));
    }

    private static void leftOver() {
        Kit.sentence("what is left over then, 1 each, by OWNERS from 0 on who get some.");
        GlassCity x = Kit.of("owner 1 1 7;owner 1 0 1;owner 2 1 3;owner 1 2 4;owner 0 1 6");
        // 7 has 50 of 150; 1, 3, 4 and 6 have 25 each; 0, 2 and 5 have none
        for (int cost = 0; cost <= 40; cost++) {
            int[] due = {0, cost / 6, 0, cost / 6, cost / 6, 0, cost / 6, cost / 3};
            int left = cost - 4 * (cost / 6) - cost / 3;
            for (int owner = 0; owner < 8 && left > 0; owner++) {
                if (owner % 2 != 0 && owner != 5 || owner == 4 || owner == 6) {
                    due[owner]++;
                    left--;
                }
            }
            int sum = 0;
            for (int owner = 0; owner < 8; owner++) {
                int o = owner;
                int c = cost;
                Kit.due("cost " + cost + " of owner " + owner, due[owner], () -> x.share(4, o, c));
                sum += x.share(4, owner, cost);
            }
            Kit.same("all of it is paid", cost, sum);
        }
    }
}
