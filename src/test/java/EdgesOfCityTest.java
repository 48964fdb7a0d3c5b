import java.util.ArrayList;
import java.util.List;
import java.util.concurrent.Callable;

/** Terms, ==== 1: panes, hours, carts and what a pane bears: each sentence with its edges. */
public final class EdgesOfCityTest {
    public static void main(String[] args) {
        sizes();
        numbers();
        beside();
        partsOfPanes();
        cracks();
        hours();
        sun();
        cartsInAll();
        cartsByHours();
        loads();
        bears();
        holds();
        Kit.finish("EdgesOfCityTest");
    }

    private static void sizes() {
        Kit.sentence("WIDE and HIGH (1 to 6 and 1 to 5; 3 and 3 at first)");
        Kit.due("wide at first", 3, () -> new GlassCity().count(0));
        Kit.due("high at first", 3, () -> new GlassCity().count(1));
        for (int wide = 1; wide <= 6; wide++) {
            for (int high = 1; high <= 5; high++) {
                GlassCity x = Kit.of("size " + wide + " " + high);
                int panes = wide * high;
                Kit.due("wide", wide, () -> x.count(0));
                Kit.due("high", high, () -> x.count(1));
                Kit.due("the last pane", 4, () -> x.pane(panes - 1, 0));
                Kit.due("no pane behind it", Kit.BOUNDS, () -> x.pane(panes, 0));
            }
        }
        Kit.wrongCity("size 0 1", 5);
        Kit.wrongCity("size 7 1", 5);
        Kit.wrongCity("size 1 0", 7);
        Kit.wrongCity("size 1 6", 7);
        Kit.wrongCity("size 5 6", 7);
    }

    private static void numbers() {
        Kit.sentence("PANES, number WIDE y and x");
        for (int wide = 1; wide <= 6; wide++) {
            for (int high = 1; high <= 5; high++) {
                for (int lit = 0; lit < wide * high; lit++) {
                    GlassCity x = Kit.of("size " + wide + " " + high + ";lamp " + lit % wide + " " + lit / wide + " 9");
                    for (int pane = 0; pane < wide * high; pane++) {
                        int p = pane;
                        Kit.due("lamp below " + pane, pane == lit ? 9 : 0, () -> x.pane(p, 5));
                    }
                }
            }
        }
    }

    /** By shares: a lamp below a pane gives 50 there, 25 beside; at a cost of what it gives these are the shares. */
    private static void beside() {
        Kit.sentence("beside: above (y less), right, below, left.");
        for (int wide = 1; wide <= 6; wide++) {
            for (int high = 1; high <= 5; high++) {
                for (int owned = 0; owned < wide * high; owned++) {
                    GlassCity x = Kit.of("size " + wide + " " + high + ";owner " + owned % wide + " " + owned / wide + " 1");
                    for (int pane = 0; pane < wide * high; pane++) {
                        int p = pane;
                        int far = Math.abs(pane % wide - owned % wide) + Math.abs(pane / wide - owned / wide);
                        int due = far == 0 ? 50 : far == 1 ? 25 : 0;
                        int cost = 50 + 25 * besideCount(wide, high, pane);
                        Kit.due(wide + " by " + high + ": " + owned + " by " + pane, due, () -> x.share(p, 1, cost));
                    }
                }
            }
        }
    }

    private static int besideCount(int wide, int high, int pane) {
        int x = pane % wide;
        int y = pane / wide;
        return (y > 0 ? 1 : 0) + (x < wide - 1 ? 1 : 0) + (y < high - 1 ? 1 : 0) + (x > 0 ? 1 : 0);
    }

    /** At first and at both ends right; one beyond each end wrong, and the pane is as it was. */
    private static void part(String word, int what, int first, int least, int most) {
        GlassCity x = new GlassCity();
        for (int pane = 0; pane < 9; pane++) {
            int p = pane;
            Kit.due(word + " at first", first, () -> x.pane(p, what));
        }
        Kit.same(word, "1", Kit.city(x, word + " 2 2 " + least));
        Kit.due(word + " at least", least, () -> x.pane(8, what));
        Kit.same(word, Kit.ARGUMENT, Kit.city(x, word + " 2 2 " + (most + 1)));
        Kit.due("fault", word.length() + 5, x::fault);
        Kit.due(word + " as it was", least, () -> x.pane(8, what));
        Kit.same(word, "2", Kit.city(x, word + " 2 2 " + most));
        Kit.due(word + " at most", most, () -> x.pane(8, what));
        Kit.same(word, Kit.ARGUMENT, Kit.city(x, word + " 2 2 " + (least - 1)));
        Kit.due("fault", word.length() + 5, x::fault);
        Kit.due(word + " as it was", most, () -> x.pane(8, what));
    }

    private static void partsOfPanes() {
        Kit.sentence("THICK (1 to 9; 4 at first)");
        part("thick", 0, 4, 1, 9);
        Kit.sentence("HEAT (- 40 to 60; 10 at first)");
        part("heat", 1, 10, 0, 60);
        GlassCity x = Kit.of("cold 1 1 40");
        Kit.due("the least heat", -40, () -> x.pane(4, 1));
        Kit.wrongCity("cold 1 1 41", 9);
        x.frost(1, 60);
        Kit.due("frost takes it no further", -40, () -> x.pane(4, 1));
        Kit.sentence("SAND (0 to 100; 0)");
        part("sand", 2, 0, 0, 100);
        Kit.sentence("OWNER of what is below (0 to 7; 0)");
        part("owner", 4, 0, 0, 7);
        Kit.sentence("LAMP below (0 to 99; 0)");
        part("lamp", 5, 0, 0, 99);
    }

    private static void cracks() {
        Kit.sentence("CRACKS (0 to 3; 3: BROKEN)");
        GlassCity x = new GlassCity();
        for (int n = 0; n <= 4; n++) {
            int due = Math.min(n, 3);
            Kit.due("cracks", due, () -> x.pane(4, 3));
            Kit.due("cracks of all", due, () -> x.count(6));
            Kit.due("broken with " + due, due == 3 ? 1 : 0, () -> x.count(7));
            Kit.crack(x, 4, 1);
        }
    }

    /** Every call that takes an hour, with this one. */
    private static List<Callable<?>> callsAt(GlassCity x, int hour) {
        List<Callable<?>> all = new ArrayList<>();
        all.add(() -> x.load(0, hour));
        all.add(() -> x.holds(0, hour, 0));
        all.add(() -> x.breaks(hour));
        all.add(() -> x.light(0, hour, 0));
        all.add(() -> x.bill(0, hour, 1));
        all.add(() -> x.seen(0, hour));
        all.add(() -> x.fined(0, hour));
        all.add(() -> x.sale(hour, -1));
        all.add(() -> x.sale(hour, 0));
        all.add(() -> x.lost(hour, 0));
        all.add(() -> x.weakest(hour));
        all.add(() -> x.strengthen(0, 1, hour, 1));
        all.add(() -> x.parade(0, 1, hour, 1, -1));
        all.add(() -> x.heaviest(0, 1, hour));
        all.add(() -> x.lamps(1, hour));
        return all;
    }

    private static void hours() {
        Kit.sentence("HOUR 0 to 23 (12 at first).");
        GlassCity x = Kit.of("cart 1 0 0 0 to 0;cart 2 0 0 23 to 23");
        x.seer();
        for (int hour : new int[] {-1, 24, Integer.MIN_VALUE, Integer.MAX_VALUE}) {
            int n = 0;
            for (Callable<?> call : callsAt(x, hour)) {
                Kit.due("call " + n + " at " + hour, Kit.BOUNDS, call);
                n++;
            }
        }
        for (int hour : new int[] {0, 23}) {
            int n = 0;
            for (Callable<?> call : callsAt(x, hour)) {
                Kit.same("call " + n + " at " + hour + " throws", false, Kit.answer(call).endsWith("Exception"));
                n++;
            }
        }
        Kit.due("load at 0", 2, () -> x.load(0, 0));
        Kit.due("load at 23", 4, () -> x.load(0, 23));
        Kit.wrongCity("cart 1 0 0 24 to 0", 11);
        Kit.wrongCity("cart 1 0 0 0 to 24", 16);
    }

    private static void sun() {
        Kit.sentence("SUN of an hour H: 0 for H below 6 and above 18; else 100 less 12 times what H is off 12.");
        GlassCity x = new GlassCity();
        for (int hour = 0; hour < 24; hour++) {
            int h = hour;
            int due = hour < 6 || hour > 18 ? 0 : 100 - 12 * Math.abs(hour - 12);
            Kit.due("sun at " + hour, due, () -> x.light(0, h, 0) + x.light(0, h, 1));
        }
        Kit.due("at 5", 0, () -> x.light(0, 5, 1));
        Kit.due("at 6: 28, less 18", 10, () -> x.light(0, 6, 1));
        Kit.due("at 18: 28, less 18", 10, () -> x.light(0, 18, 1));
        Kit.due("at 19", 0, () -> x.light(0, 19, 1));
    }

    private static String cartLines(int n, String cart) {
        return (cart + ";").repeat(n - 1) + cart;
    }

    private static void cartsInAll() {
        Kit.sentence("CARTS (at most 12, numbered from 0 on)");
        GlassCity x = new GlassCity();
        Kit.due("none at first", Kit.BOUNDS, () -> x.cart(0, 0));
        for (int n = 0; n < 10; n++) {
            Kit.same("a text", n + 1, Kit.city(x, n == 9 ? cartLines(3, "cart 100 0 0 1 to 1") : "cart " + (n + 1) + " 0 0 1 to 1"));
        }
        Kit.due("all", 12, () -> x.count(2));
        Kit.due("cart 0", 1, () -> x.cart(0, 0));
        Kit.due("cart 8", 9, () -> x.cart(8, 0));
        Kit.due("cart 11", 100, () -> x.cart(11, 0));
        Kit.due("no cart 12", Kit.BOUNDS, () -> x.cart(12, 0));
        Kit.wrongCity(cartLines(13, "cart 1 0 0 1 to 1"), 12 * 18);
    }

    private static void cartsByHours() {
        Kit.sentence("WEIGHT (1 to 200), a PANE, from an hour to another one (both too; 0 to 23, round midnight if the second is less), "
                + "FELT or not: without FELT the WEIGHT counts twice.");
        for (int from = 0; from < 24; from++) {
            for (int to = 0; to < 24; to++) {
                GlassCity x = Kit.of("cart 200 0 0 " + from + " to " + to + ";cart 1 1 0 " + from + " to " + to + " felt");
                boolean[] there = new boolean[24];
                for (int hour = from; hour != to; hour = (hour + 1) % 24) {
                    there[hour] = true;
                }
                there[to] = true;
                for (int hour = 0; hour < 24; hour++) {
                    int h = hour;
                    Kit.due(from + " to " + to + " at " + hour, there[hour] ? 400 : 0, () -> x.load(0, h));
                    Kit.due(from + " to " + to + " with felt at " + hour, there[hour] ? 1 : 0, () -> x.load(1, h));
                }
            }
        }
        Kit.wrongCity("cart 0 0 0 1 to 2", 5);
        Kit.wrongCity("cart 201 0 0 1 to 2", 5);
        GlassCity x = Kit.of("size 6 5;cart 1 5 4 23 to 0");
        Kit.due("the last pane", 29, () -> x.cart(0, 1));
        Kit.due("from", 23, () -> x.cart(0, 2));
        Kit.due("to", 0, () -> x.cart(0, 3));
    }

    private static void loads() {
        Kit.sentence("LOAD of a PANE at an hour: of all CARTS that are there then.");
        GlassCity x = Kit.of("size 1 2;" + cartLines(12, "cart 200 0 1 5 to 5"));
        Kit.due("twelve of the heaviest", 4800, () -> x.load(1, 5));
        Kit.due("another hour", 0, () -> x.load(1, 6));
        Kit.due("another pane", 0, () -> x.load(0, 5));
        Kit.same("a size", "2", Kit.city(x, "size 1 2"));
        Kit.due("carts that are gone", 0, () -> x.load(1, 5));
        Kit.due("bears as if they had never been", 160, () -> x.heaviest(1, 1, 5));
        Kit.same("one cart", "3", Kit.city(x, "cart 7 0 0 5 to 5 felt"));
        Kit.due("the new one alone", 7, () -> x.load(0, 5));
        Kit.due("the new one alone", 153, () -> x.heaviest(0, 0, 5));
        Kit.due("none of the old", 160, () -> x.heaviest(1, 1, 5));
    }

    private static void bears() {
        Kit.sentence("BEARS: 10 times THICK times THICK, less 30 for each CRACK, less HEAT below 0 (each a 1), 0 at least; "
                + "of what is BROKEN 0.");
        int[] heats = {60, 1, 0, -1, -9, -10, -11, -30, -40};
        for (int thick = 1; thick <= 9; thick++) {
            for (int heat : heats) {
                String line = heat < 0 ? "cold 0 0 " + -heat : "heat 0 0 " + heat;
                GlassCity x = Kit.of("size 1 1;thick 0 0 " + thick + ";" + line);
                for (int cracks = 0; cracks <= 3; cracks++) {
                    int due = cracks == 3 ? 0 : Math.max(0, 10 * thick * thick - 30 * cracks - Math.max(0, -heat));
                    Kit.due("thick " + thick + ", " + line + ", cracks " + cracks, due, () -> x.pane(0, 6));
                    Kit.crack(x, 0, 1);
                }
            }
        }
    }

    private static void holds() {
        Kit.sentence("HOLDS at an hour with so much more: it is not BROKEN, and LOAD and that are at most BEARS.");
        GlassCity x = Kit.of("size 6 5;thick 0 0 1;cart 10 0 0 3 to 4 felt;thick 5 4 1;cart 11 5 4 4 to 5 felt;thick 1 0 1;cold 1 0 10");
        Kit.due("10 of 10", true, () -> x.holds(0, 3, 0));
        Kit.due("11 of 10", false, () -> x.holds(0, 3, 1));
        Kit.due("one too much of load alone", false, () -> x.holds(29, 4, 0));
        Kit.due("10 more at another hour", true, () -> x.holds(29, 3, 10));
        Kit.due("0 of 0", true, () -> x.holds(1, 4, 0));
        Kit.due("1 of 0", false, () -> x.holds(1, 4, 1));
        Kit.due("the last pane alone does not hold", 1 << 29, () -> x.breaks(4));
        Kit.due("none that does not hold", 0, () -> x.breaks(6));
        Kit.crack(x, 1, 2);
        Kit.due("two cracks hold 0", true, () -> x.holds(1, 4, 0));
        Kit.crack(x, 1, 1);
        Kit.due("broken does not", false, () -> x.holds(1, 4, 0));
        Kit.crack(x, 0, 3);
        Kit.due("the first, too", 1 << 29 | 3, () -> x.breaks(5));
    }
}
