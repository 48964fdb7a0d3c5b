/** Promises 25, 31 and 32: spread, frost, odds. */
public final class FrostTest {
    public static void main(String[] args) {
        odds();
        spreads();
        warm();
        draws();
        seeds();
        wrong();
        Kit.finish("FrostTest");
    }

    private static void odds() {
        Kit.due("warm", 1000000000, () -> new GlassCity().odds());
        // chances: 3 * 7 - 4 = 17, 3 * 1 - 4 is 0, 3 * 40 - 4 is 100 at most, 3 * 9 - 9 = 18
        GlassCity x = Kit.of("size 4 1;cold 0 0 7;cold 1 0 1;cold 2 0 0;thick 3 0 9;cold 3 0 9");
        Kit.due("83 and 82 of 100", 680600000, x::odds);
        Kit.same("text", "2", Kit.city(x, "cold 2 0 40"));
        Kit.due("a sure one", 0, x::odds);
        for (int i = 0; i < 3; i++) {
            x.blow(2, 999);
        }
        Kit.due("broken does not count", 680600000, x::odds);
        GlassCity y = Kit.of("size 6 1;thick 0 0 5;cold 0 0 2;thick 1 0 5;cold 1 0 2;thick 2 0 5;cold 2 0 2;"
                + "thick 3 0 5;cold 3 0 2;thick 4 0 5;cold 4 0 2;thick 5 0 5;cold 5 0 2");
        Kit.due("99 of 100 six times, each rounded down", rounded(99, 6), y::odds);
        GlassCity z = Kit.of("size 6 1;cold 0 0 12;cold 1 0 12;cold 2 0 12;cold 3 0 12;cold 4 0 12;cold 5 0 12");
        Kit.due("68 of 100 six times, each rounded down", rounded(68, 6), z::odds);
        Kit.due("the same as of 0", rounded(68, 6), () -> z.spread(0));
    }

    private static long rounded(int of100, int times) {
        long odds = 1000000000;
        for (int i = 0; i < times; i++) {
            odds = odds * of100 / 100;
        }
        return odds;
    }

    private static void spreads() {
        GlassCity x = Kit.of("size 3 1;cold 0 0 7;cold 1 0 9;cold 2 0 13");
        // chances: 17, 23, 35
        long[] due = {1000000000, 0, 0, 0, 0};
        for (int chance : new int[] {17, 23, 35}) {
            long[] next = new long[5];
            next[0] = due[0] * (100 - chance) / 100;
            for (int k = 1; k < 5; k++) {
                next[k] = due[k] * (100 - chance) / 100 + due[k - 1] * chance / 100;
            }
            due = next;
        }
        for (int k = 0; k < 4; k++) {
            int n = k;
            Kit.due("spread " + k, due[k], () -> x.spread(n));
        }
        Kit.due("spread 0 in full", 415415000, () -> x.spread(0));
        Kit.due("spread 3 in full", 13685000, () -> x.spread(3));
        for (int k : new int[] {-1, 4, 30, 31, Integer.MIN_VALUE, Integer.MAX_VALUE}) {
            Kit.due("spread " + k, 0, () -> x.spread(k));
        }
        GlassCity y = new GlassCity();
        Kit.due("warm", 1000000000, () -> y.spread(0));
        Kit.due("warm", 0, () -> y.spread(1));
        StringBuilder text = new StringBuilder("size 6 5");
        GlassCity all = new GlassCity();
        for (int pane = 0; pane < 30; pane++) {
            text.append(pane % 12 == 11 ? "|" : ";").append("cold " + pane % 6 + " " + pane / 6 + " 40");
        }
        int n = 0;
        for (String part : text.toString().split("\\|")) {
            n++;
            Kit.same("cold city", n, Kit.city(all, part));
        }
        Kit.due("all at once", 1000000000, () -> all.spread(30));
        Kit.due("not one less", 0, () -> all.spread(29));
    }

    private static void warm() {
        GlassCity x = new GlassCity();
        Kit.due("modulo 1 takes nothing", 0, () -> x.frost(77, 1));
        Kit.due("heat", 10, () -> x.pane(8, 1));
        Kit.due("an act", 1, () -> x.count(8));
        GlassCity y = Kit.of("size 1 1;cold 0 0 40");
        for (int i = 1; i <= 3; i++) {
            int n = i;
            Kit.due("a sure crack", 1, () -> y.frost(n, 60));
            Kit.due("-40 at least", -40, () -> y.pane(0, 1));
            Kit.due("cracks", n, () -> y.pane(0, 3));
        }
        Kit.due("broken", 0, () -> y.frost(9, 60));
        Kit.due("still 3", 3, () -> y.pane(0, 3));
    }

    private static void draws() {
        // seed 0: 12345, draw 0; then 1103515245 * 12345 + 12345 and so on, by hand in longs
        long seed = 0;
        int[] draw = new int[40];
        for (int i = 0; i < draw.length; i++) {
            seed = seed * 1103515245L + 12345L & 0xffffffffL;
            draw[i] = (int) (seed >> 16 & 0x7fff);
        }
        Kit.same("the first draws of 0", "0 21468 9988", draw[0] + " " + draw[1] + " " + draw[2]);
        GlassCity x = Kit.of("size 6 2;cold 0 0 5;cold 3 0 20;thick 4 0 1;cold 5 0 3");
        int at = 0;
        int got = 0;
        int[] heat = {-5, 10, 10, -20, 10, -3, 10, 10, 10, 10, 10, 10};
        int[] thick = {4, 4, 4, 4, 1, 4, 4, 4, 4, 4, 4, 4};
        int[] cracks = new int[12];
        for (int pane = 0; pane < 12; pane++) {
            heat[pane] = Math.max(-40, heat[pane] - draw[at++] % 27);
            if (heat[pane] < 0 && draw[at++] % 100 < Math.max(0, Math.min(100, -3 * heat[pane] - thick[pane]))) {
                cracks[pane]++;
                got++;
            }
        }
        Kit.due("how many", got, () -> x.frost(0, 27));
        for (int pane = 0; pane < 12; pane++) {
            int p = pane;
            Kit.due("heat of " + pane, heat[pane], () -> x.pane(p, 1));
            Kit.due("cracks of " + pane, cracks[pane], () -> x.pane(p, 3));
        }
    }

    private static void seeds() {
        // seeds below 0 and great ones are right, too
        for (int seed : new int[] {-1, Integer.MIN_VALUE, Integer.MAX_VALUE, 123456789, -987654321}) {
            GlassCity x = new GlassCity();
            int first = 1103515245 * seed + 12345;
            int taken = (first >>> 16 & 0x7fff) % 60;
            x.frost(seed, 60);
            Kit.due("heat by seed " + seed, 10 - taken < -40 ? -40 : 10 - taken, () -> x.pane(0, 1));
        }
    }

    private static void wrong() {
        GlassCity x = new GlassCity();
        for (int n : new int[] {0, 61, -1, Integer.MIN_VALUE, Integer.MAX_VALUE}) {
            Kit.due("frost of " + n, Kit.ARGUMENT, () -> x.frost(1, n));
        }
        Kit.due("no act", 0, () -> x.count(8));
        Kit.due("heat", 10, () -> x.pane(0, 1));
    }
}
