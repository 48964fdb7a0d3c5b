/** Promises 14 to 17, 22 and 37: light, bill, seen, fined, share, lamps. */
public final class LightTest {
    public static void main(String[] args) {
        sun();
        lights();
        bills();
        seenWithoutLaw();
        seenByLaw();
        conditions();
        fines();
        shares();
        lamps();
        Kit.finish("LightTest");
    }

    private static void sun() {
        GlassCity x = Kit.of("size 1 1;sand 0 0 100");
        int[] due = {0, 0, 0, 0, 0, 0, 28, 40, 52, 64, 76, 88, 100, 88, 76, 64, 52, 40, 28, 0, 0, 0, 0, 0};
        for (int hour = 0; hour < 24; hour++) {
            int h = hour;
            Kit.due("all is kept at " + hour, due[hour], () -> x.light(0, h, 1));
            Kit.due("none is let down at " + hour, 0, () -> x.light(0, h, 0));
        }
    }

    private static void lights() {
        // 88 * 67 / 100 = 58, 58 * 7 / 12 = 33
        GlassCity x = Kit.of("size 2 1;sand 0 0 33;thick 0 0 5;lamp 0 0 40");
        Kit.due("let down", 33, () -> x.light(0, 11, 0));
        Kit.due("kept", 55, () -> x.light(0, 11, 1));
        Kit.due("below", 73, () -> x.light(0, 11, 2));
        Kit.due("lamp at night", 40, () -> x.light(0, 0, 2));
        x.blow(0, 999);
        Kit.due("a crack", 28, () -> x.light(0, 11, 0));
        Kit.due("a crack keeps", 60, () -> x.light(0, 11, 1));
        x.blow(0, 999);
        x.blow(0, 999);
        Kit.due("broken", 18, () -> x.light(0, 11, 0));
        // 28 * 67 / 100 = 18, 18 * 7 / 12 = 10
        Kit.due("0 at least", 0, () -> x.light(0, 6, 0));
        Kit.due("all of 28", 28, () -> x.light(0, 6, 1));
        Kit.due("what 3", Kit.ELEMENT, () -> x.light(0, 6, 3));
        Kit.due("what -1", Kit.ELEMENT, () -> x.light(0, 6, -1));
        Kit.due("no pane first", Kit.BOUNDS, () -> x.light(2, 6, 3));
        Kit.due("no hour first", Kit.BOUNDS, () -> x.light(0, 24, 3));
        Kit.due("no hour", Kit.BOUNDS, () -> x.light(0, -1, 0));
    }

    private static void bills() {
        // each lets down 100 * 11 / 12 = 91 or 66
        GlassCity x = Kit.of("size 3 1;thick 0 0 1;owner 0 0 7;owner 2 0 7;lamp 2 0 50");
        Kit.due("91 and 66 by 7 by 10", 109, () -> x.bill(7, 12, 7));
        Kit.due("66 by 7 by 10", 46, () -> x.bill(0, 12, 7));
        Kit.due("none", 0, () -> x.bill(3, 12, 999));
        Kit.due("999", 15684, () -> x.bill(7, 12, 999));
        Kit.due("0", 0, () -> x.bill(7, 12, 0));
        Kit.due("1000", Kit.ARGUMENT, () -> x.bill(7, 12, 1000));
        Kit.due("-1", Kit.ARGUMENT, () -> x.bill(7, 12, -1));
        Kit.due("no owner 8", Kit.BOUNDS, () -> x.bill(8, 12, 1000));
        Kit.due("no owner -1", Kit.BOUNDS, () -> x.bill(-1, 12, 0));
        Kit.due("no hour", Kit.BOUNDS, () -> x.bill(0, 24, 1000));
    }

    private static void seenWithoutLaw() {
        GlassCity x = Kit.of("size 2 1;lamp 0 0 20;lamp 1 0 21");
        Kit.due("20 is not above 20", false, () -> x.seen(0, 0));
        Kit.due("21 is", true, () -> x.seen(1, 0));
        Kit.due("nothing to pay", 0, () -> x.fined(1, 0));
        Kit.due("no pane", Kit.BOUNDS, () -> x.seen(2, 0));
        Kit.due("no hour", Kit.BOUNDS, () -> x.seen(0, 24));
        Kit.due("no pane", Kit.BOUNDS, () -> x.fined(-1, 0));
        Kit.due("no hour", Kit.BOUNDS, () -> x.fined(0, -1));
    }

    private static void seenByLaw() {
        GlassCity x = Kit.of("size 3 1;owner 0 0 1;owner 1 0 2;owner 2 0 3;lamp 2 0 30");
        Kit.same("law", "3", Kit.shame(x, "fine 1;show if owner < 2;hide if owner < 3"));
        Kit.due("the first that holds shows", true, () -> x.seen(0, 0));
        Kit.due("the second hides", false, () -> x.seen(1, 12));
        Kit.due("none holds: light", true, () -> x.seen(2, 0));
        Kit.same("law", "2", Kit.shame(x, "hide if owner < 3;show"));
        Kit.due("hidden", false, () -> x.seen(0, 12));
        Kit.due("shown by the last", true, () -> x.seen(2, 12));
        Kit.same("law", "2", Kit.shame(x, "hide;show"));
        Kit.due("the first counts", false, () -> x.seen(2, 12));
        Kit.same("law", "1", Kit.shame(x, "fine 7"));
        Kit.due("fines do not show", false, () -> x.seen(0, 0));
        Kit.same("no law any more", "0", Kit.shame(x, ""));
        Kit.due("light again", true, () -> x.seen(2, 12));
    }

    private static void tell(GlassCity x, String condition, boolean due) {
        Kit.same("law of " + condition, "1", Kit.shame(x, "hide if " + condition));
        Kit.due(condition, !due, () -> x.seen(4, 13));
        Kit.same("law of " + condition, "1", Kit.shame(x, "show if not (" + condition + ") and 0 < 1"));
    }

    private static void conditions() {
        GlassCity x = Kit.of("thick 1 1 3;sand 1 1 10;owner 1 1 6;lamp 1 1 20;cart 9 1 1 13 to 13;cart 4 1 1 12 to 13 felt");
        x.blow(4, 91);
        // 88 * 90 / 100 = 79, 79 * 9 / 12 = 59, less 5, and 20: 74
        String[] facts = {"thick", "sand", "cracks", "hour", "light", "owner", "load"};
        int[] values = {3, 10, 1, 13, 74, 6, 22};
        for (int i = 0; i < facts.length; i++) {
            tell(x, facts[i] + " > " + (values[i] - 1), true);
            tell(x, facts[i] + " > " + values[i], false);
            tell(x, facts[i] + " < " + (values[i] + 1), true);
            tell(x, facts[i] + " < " + values[i], false);
            tell(x, values[i] + " > " + facts[i], false);
        }
        tell(x, "thick + sand + 1 + cracks > 14", true);
        tell(x, "thick + sand + 1 + cracks > 15", false);
        tell(x, "14 < 12 + thick", true);
        tell(x, "15 < 12 + thick", false);
        tell(x, "1 < 2 or 1 < 2 and 2 < 1", true);
        tell(x, "(1 < 2 or 1 < 2) and 2 < 1", false);
        tell(x, "2 < 1 and 2 < 1 or 1 < 2", true);
        tell(x, "2 < 1 and (2 < 1 or 1 < 2)", false);
        tell(x, "not 2 < 1 and 2 < 1", false);
        tell(x, "not (2 < 1 and 2 < 1)", true);
        tell(x, "not 1 < 2 or 1 < 2", true);
        tell(x, "not (1 < 2 or 1 < 2)", false);
        tell(x, "not not 1 < 2", true);
        tell(x, "not not not 1 < 2", false);
        tell(x, "2 < 1 or 2 < 1 or 1 < 2", true);
        tell(x, "1 < 2 and 1 < 2 and 2 < 1", false);
        tell(x, "1<2 and (1<2 and (1<2 and (1<2 and (1<2 and 1<2))))", true);
        tell(x, "2<1 or 1<2 and (2<1 or 1<2 and (2<1 or 1<2 and (2<1 or 1<2 and (2<1 or 1<2 and 9+9>8+8))))", true);
        tell(x, "2<1 or 1<2 and (2<1 or 1<2 and (2<1 or 1<2 and (2<1 or 1<2 and (2<1 or 1<2 and 9+9<8+8))))", false);
    }

    private static void fines() {
        GlassCity x = Kit.of("size 2 1;lamp 0 0 30;owner 1 0 1");
        Kit.same("law", "5", Kit.shame(x, "fine 999 if hour < 6;hide if owner > 0 and hour < 6;fine 1;show if owner > 0;fine 30 if owner > 0"));
        Kit.due("seen by light", 1000, () -> x.fined(0, 0));
        Kit.due("hidden", 0, () -> x.fined(1, 0));
        Kit.due("shown", 31, () -> x.fined(1, 20));
        Kit.due("by day", 1, () -> x.fined(0, 12));
    }

    private static void shares() {
        GlassCity x = Kit.of("owner 1 0 7;owner 1 1 2;owner 0 1 5;owner 2 1 5");
        // below 4: 2 has 50, 5 has 50, 7 and 0 have 25 of 150
        int[] due = {17, 0, 34, 0, 0, 33, 0, 16};
        for (int owner = 0; owner < 8; owner++) {
            int o = owner;
            Kit.due("share of " + owner, due[owner], () -> x.share(4, o, 100));
            Kit.due("share of none", 0, () -> x.share(4, o, 0));
        }
        Kit.due("of 1", 1, () -> x.share(4, 0, 1));
        Kit.due("of 1", 0, () -> x.share(4, 2, 1));
        // below 0: 0 has 50, 7 and 5 have 25 each
        Kit.due("corner", 5000, () -> x.share(0, 0, 9999));
        Kit.due("corner", 2500, () -> x.share(0, 5, 9999));
        Kit.due("corner", 2499, () -> x.share(0, 7, 9999));
        Kit.due("10000", Kit.ARGUMENT, () -> x.share(0, 7, 10000));
        Kit.due("-1", Kit.ARGUMENT, () -> x.share(0, 7, -1));
        Kit.due("no owner", Kit.BOUNDS, () -> x.share(0, 8, -1));
        Kit.due("no owner", Kit.BOUNDS, () -> x.share(0, -1, 0));
        Kit.due("no pane", Kit.BOUNDS, () -> x.share(9, 0, -1));
        GlassCity one = Kit.of("size 1 1;owner 0 0 4");
        Kit.due("all alone", 77, () -> one.share(0, 4, 77));
    }

    private static void lamps() {
        GlassCity x = Kit.of("size 5 1;lamp 1 0 24;lamp 2 0 25;lamp 3 0 50;lamp 4 0 49");
        Kit.due("none is needed", 0, () -> x.lamps(8, 0));
        Kit.due("of no panes", 0, () -> x.lamps(0, 0));
        Kit.due("of none there", 0, () -> x.lamps(32, 0));
        Kit.due("25 is enough for 25", 2, () -> x.lamps(4, 0));
        Kit.due("24 wants its own", 2, () -> x.lamps(2, 0));
        Kit.due("49 wants one beside", 8, () -> x.lamps(16, 0));
        Kit.due("two by one", 8, () -> x.lamps(20, 0));
        Kit.due("three", 1 + 2 + 8, () -> x.lamps(31, 0));
        Kit.due("bits of none count for nothing", 1 + 2 + 8, () -> x.lamps(-1, 0));
        Kit.due("day", 0, () -> x.lamps(-1, 12));
        Kit.due("no hour", Kit.BOUNDS, () -> x.lamps(0, 24));
        Kit.due("no hour", Kit.BOUNDS, () -> x.lamps(-1, -1));
        GlassCity y = Kit.of("size 3 3");
        Kit.due("dark: two beside it are enough", 1 + 4, () -> y.lamps(1 + 2 + 4, 0));
        Kit.due("corners", -1, () -> y.lamps(1 + 4 + 64 + 256, 0));
        Kit.due("a cross by three", 1 + 4 + 16, () -> y.lamps(2 + 8 + 16 + 32, 0));
        Kit.due("too dark", -1, () -> y.lamps(511, 0));
        GlassCity z = Kit.of("size 3 2;lamp 1 1 30");
        Kit.due("the first three", 1 + 2 + 4, () -> z.lamps(1 + 4 + 16, 0));
        GlassCity w = Kit.of("size 2 1;lamp 0 0 30;lamp 1 0 30");
        Kit.due("one is enough for both", 1, () -> w.lamps(3, 0));
        GlassCity v = Kit.of("size 2 1");
        Kit.due("both", 3, () -> v.lamps(3, 0));
    }
}
