/** Promises 1 to 3: a new object, feed, end. */
public final class TapeTest {
    public static void main(String[] args) {
        newObject();
        feeding();
        ending();
        bytesInOrder();
        Kit.finish("TapeTest");
    }

    private static void newObject() {
        GlassCity x = new GlassCity();
        int[] counts = {3, 3, 0, 0, -1, 0, 0, 0, 0, 0};
        for (int what = 0; what < counts.length; what++) {
            int w = what;
            Kit.due("new: count " + what, counts[what], () -> x.count(w));
        }
        int[] pane = {4, 10, 0, 0, 0, 0, 160};
        for (int p = 0; p < 9; p++) {
            for (int what = 0; what < pane.length; what++) {
                int w = what;
                int q = p;
                Kit.due("new: pane " + p + " " + what, pane[what], () -> x.pane(q, w));
            }
        }
        Kit.due("new: no pane 9", Kit.BOUNDS, () -> x.pane(9, 0));
        Kit.due("new: fault", -1, x::fault);
        Kit.due("new: undo", false, x::undo);
        Kit.due("new: back", false, x::back);
        Kit.due("new: run", 10, () -> x.runs(10));
        Kit.due("new: nothing on the tape", false, () -> x.end(1));
        Kit.same("NONE", -1, GlassCity.NONE);
    }

    private static void feeding() {
        GlassCity x = new GlassCity();
        for (int n = 20; n <= 400; n += 20) {
            Kit.due("feed to " + n, n, () -> x.feed(1, 2, 3, 4, 5));
        }
        Kit.due("feed over 400", -1, () -> x.feed(1, 2, 3, 4, 5));
        Kit.due("400 are there", true, () -> x.end(400));
        Kit.due("not 401", false, () -> x.end(401));
        Kit.due("381", true, () -> x.end(381));
        Kit.due("feed over 400 from 381", -1, () -> x.feed(1, 2, 3, 4, 5));
        Kit.due("none came", false, () -> x.end(382));
        Kit.due("380", true, () -> x.end(380));
        Kit.due("feed to 400 again", 400, () -> x.feed(1, 2, 3, 4, 5));
    }

    private static void ending() {
        GlassCity x = new GlassCity();
        Kit.due("end 0 of none", true, () -> x.end(0));
        Kit.due("end -1", false, () -> x.end(-1));
        Kit.due("end of the least int", false, () -> x.end(Integer.MIN_VALUE));
        Kit.due("end of the greatest int", false, () -> x.end(Integer.MAX_VALUE));
        x.feed(0, 0, 0, 0, 0);
        Kit.due("end 21 of 20", false, () -> x.end(21));
        Kit.due("end 20 of 20", true, () -> x.end(20));
        Kit.due("end 7", true, () -> x.end(7));
        Kit.due("end 8 of 7", false, () -> x.end(8));
        Kit.due("feed behind 7", 27, () -> x.feed(0, 0, 0, 0, 0));
    }

    private static void bytesInOrder() {
        GlassCity x = new GlassCity();
        // "size 5 2" and twelve blanks, the highest byte of each number first
        Kit.due("feed", 20, () -> x.feed(0x73697a65, 0x20352032, 0x20202020, 0x20202020, 0x20202020));
        Kit.due("city", 1, x::city);
        Kit.due("wide", 5, () -> x.count(0));
        Kit.due("high", 2, () -> x.count(1));
        // two feeds make one text: the word goes on from the one to the other
        Kit.due("feed", 20, () -> x.feed(0x20202020, 0x20202020, 0x20202020, 0x20202020, 0x20207369));
        Kit.due("feed", 40, () -> x.feed(0x7a652032, 0x20342020, 0x20202020, 0x20202020, 0x20202020));
        Kit.due("city", 2, x::city);
        Kit.due("wide", 2, () -> x.count(0));
        Kit.due("high", 4, () -> x.count(1));
        Kit.due("the tape is used up", false, () -> x.end(1));
    }
}
