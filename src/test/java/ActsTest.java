/** Promises 38 to 41: undo, image, back, count. */
public final class ActsTest {
    public static void main(String[] args) {
        undone();
        twelve();
        forgotten();
        images();
        imageTwice();
        counts();
        Kit.finish("ActsTest");
    }

    private static void undone() {
        GlassCity x = Kit.of("size 2 2;cold 0 0 40");
        x.runs(100);
        x.strew(1, 30);
        x.blow(2, 999);
        x.frost(5, 60);
        int cold = x.pane(3, 1);
        x.mend();
        Kit.due("four acts", 4, () -> x.count(8));
        Kit.due("the mending", true, x::undo);
        Kit.due("heat as it was", cold, () -> x.pane(3, 1));
        Kit.due("a crack by the blow, one by frost", true, () -> x.count(6) >= 2);
        Kit.due("the frost", true, x::undo);
        Kit.due("heat", 10, () -> x.pane(3, 1));
        Kit.due("cracks", 1, () -> x.count(6));
        Kit.due("the blow", true, x::undo);
        Kit.due("cracks", 0, () -> x.count(6));
        Kit.due("sand stays", 30, () -> x.count(9));
        Kit.due("the sand", true, x::undo);
        Kit.due("sand", 0, () -> x.count(9));
        Kit.due("nothing any more", false, x::undo);
        Kit.due("none", 0, () -> x.count(8));
    }

    private static void twelve() {
        GlassCity x = new GlassCity();
        for (int n = 1; n <= 15; n++) {
            x.strew(0, n);
            int due = Math.min(n, 12);
            Kit.due("acts", due, () -> x.count(8));
        }
        for (int n = 14; n >= 13; n--) {
            int due = n;
            Kit.due("undo", true, x::undo);
            Kit.due("sand", due, () -> x.pane(0, 2));
        }
        x.strew(0, 99);
        Kit.due("11", 11, () -> x.count(8));
        for (int n = 13; n >= 3; n--) {
            int due = n;
            Kit.due("undo", true, x::undo);
            Kit.due("sand", due, () -> x.pane(0, 2));
        }
        Kit.due("the 13th is not remembered", false, x::undo);
        Kit.due("sand", 3, () -> x.pane(0, 2));
    }

    private static void forgotten() {
        GlassCity x = new GlassCity();
        x.strew(0, 5);
        x.strew(0, 6);
        Kit.same("a wrong text", Kit.ARGUMENT, Kit.city(x, "no"));
        Kit.due("two", 2, () -> x.count(8));
        Kit.same("a law", "1", Kit.shame(x, "hide"));
        x.runs(1);
        x.seer();
        x.offer(0, 0, 1);
        x.image();
        Kit.due("still two", 2, () -> x.count(8));
        Kit.due("undo", true, x::undo);
        Kit.due("RUN is not undone", 1, () -> x.runs(1));
        Kit.due("offers are not undone", 1, () -> x.offer(0, 0, 1));
        Kit.same("a text", "1", Kit.city(x, "thick 0 0 4"));
        Kit.due("none", 0, () -> x.count(8));
        Kit.due("none", false, x::undo);
        Kit.due("as it was", 5, () -> x.pane(0, 2));
        x.strew(0, 7);
        x.back();
        Kit.due("none behind back", false, x::undo);
        Kit.due("sand of the image", 6, () -> x.pane(0, 2));
    }

    private static void images() {
        GlassCity x = Kit.of("size 4 2;thick 3 1 7;heat 3 1 33;sand 3 1 11;owner 3 1 3;lamp 3 1 40;cart 9 3 1 4 to 5 felt");
        Kit.same("law", "2", Kit.shame(x, "show if owner > 2;fine 8 if owner > 2"));
        x.seer();
        x.offer(0, 7, 55);
        x.runs(44);
        x.blow(7, 999);
        Kit.feed(x, "thick 0 0 1");
        x.image();
        Kit.same("text", "2", Kit.answer(x::city));
        Kit.same("text", "3", Kit.city(x, "size 5 5;cart 1 0 0 0 to 0;cart 1 0 0 0 to 0"));
        Kit.same("law", "0", Kit.shame(x, ""));
        Kit.same("wrong", Kit.ARGUMENT, Kit.shame(x, "show 1"));
        x.seer();
        x.offer(0, 7, 1);
        x.runs(2);
        x.strew(0, 1);
        x.feed(0, 0, 0, 0, 0);
        Kit.due("back", true, x::back);
        int[] counts = {4, 2, 1, 1, 2, 1, 1, 0, 0, 11, -1};
        for (int what = 0; what < counts.length; what++) {
            int w = what;
            Kit.due("image: count " + what, counts[what], () -> x.count(w));
        }
        int[] pane = {7, 33, 11, 1, 3, 40, 460};
        for (int what = 0; what < pane.length; what++) {
            int w = what;
            Kit.due("image: pane " + what, pane[what], () -> x.pane(7, w));
        }
        Kit.due("image: thick", 4, () -> x.pane(0, 0));
        Kit.due("image: cart", 9, () -> x.cart(0, 0));
        Kit.due("image: law", 8, () -> x.fined(7, 0));
        Kit.due("image: offer", 55, () -> x.offer(0, 7, 55));
        Kit.due("image: run", 44, () -> x.runs(44));
        Kit.due("fault is not of the image", 5, x::fault);
        Kit.due("nor is the tape", true, () -> x.end(20));
        Kit.due("the image does not change with the city", true, () -> {
            x.strew(0, 77);
            Kit.shame(x, "hide;hide;hide");
            return x.back() && x.pane(0, 2) == 0 && x.count(4) == 2 && x.fined(7, 0) == 8;
        });
    }

    private static void imageTwice() {
        GlassCity x = new GlassCity();
        Kit.due("none was kept", false, x::back);
        x.strew(0, 1);
        Kit.due("nothing happens", false, x::back);
        Kit.due("the act is there", 1, () -> x.count(8));
        x.image();
        x.strew(0, 2);
        x.image();
        x.strew(0, 3);
        Kit.due("back", true, x::back);
        Kit.due("to the later one", 2, () -> x.pane(0, 2));
        x.strew(0, 4);
        Kit.due("back again", true, x::back);
        Kit.due("to the same", 2, () -> x.pane(0, 2));
        Kit.due("without a law", -1, () -> x.count(4));
        Kit.same("law", "1", Kit.shame(x, "hide"));
        x.back();
        Kit.due("without a law again", -1, () -> x.count(4));
        Kit.due("seen by light", true, () -> x.seen(0, 12));
    }

    private static void counts() {
        GlassCity x = Kit.of("size 6 5;sand 0 0 100;sand 5 4 1;cart 1 0 0 0 to 0");
        x.runs(100);
        x.blow(0, 999);
        x.blow(29, 999);
        x.blow(29, 999);
        x.blow(29, 999);
        x.seer();
        int[] due = {6, 5, 1, 1, -1, 1, 4, 1, 4, 101};
        for (int what = 0; what < due.length; what++) {
            int w = what;
            Kit.due("count " + what, due[what], () -> x.count(w));
        }
        for (int what : new int[] {-1, 10, Integer.MIN_VALUE, Integer.MAX_VALUE}) {
            Kit.due("count " + what, -1, () -> x.count(what));
        }
    }
}
