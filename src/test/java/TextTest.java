/** Promises 4 to 6: city, shame, fault. */
public final class TextTest {
    public static void main(String[] args) {
        rightCities();
        wrongCities();
        tooMuch();
        tenTexts();
        nothingStays();
        rightShames();
        wrongShames();
        faults();
        Kit.finish("TextTest");
    }

    private static void rightCities() {
        GlassCity x = new GlassCity();
        Kit.same("empty", "1", Kit.city(x, ""));
        Kit.same("blanks", "2", Kit.city(x, "     "));
        Kit.same("blanks all about", "3", Kit.city(x, "  size   6   5  ;  thick  5  4  9  "));
        Kit.due("thick 29", 9, () -> x.pane(29, 0));
        Kit.same("no blanks where none are needed", "4", Kit.city(x, "size4 3;cart7 1 2 3to4felt;lamp001 002 099"));
        Kit.due("wide", 4, () -> x.count(0));
        Kit.due("lamp", 99, () -> x.pane(9, 5));
        Kit.due("felt", 1, () -> x.cart(0, 4));
        Kit.due("cart's pane", 9, () -> x.cart(0, 1));
        Kit.same("all kinds", "5", Kit.city(x,
                "size 2 3;thick 1 2 1;heat 0 0 60;cold 1 0 40;sand 0 1 100;owner 1 1 7;lamp 0 2 99;cart 200 1 2 0 to 23"));
        Kit.due("thick", 1, () -> x.pane(5, 0));
        Kit.due("heat", 60, () -> x.pane(0, 1));
        Kit.due("cold", -40, () -> x.pane(1, 1));
        Kit.due("sand", 100, () -> x.pane(2, 2));
        Kit.due("owner", 7, () -> x.pane(3, 4));
        Kit.due("lamp", 99, () -> x.pane(4, 5));
        Kit.due("weight", 200, () -> x.cart(0, 0));
        Kit.same("a text behind another", "6", Kit.city(x, "cart 1 0 0 23 to 0 felt;cold 0 0 0"));
        Kit.due("carts of both", 2, () -> x.count(2));
        Kit.due("cold 0", 0, () -> x.pane(0, 1));
        Kit.due("what was stays", 100, () -> x.pane(2, 2));
        Kit.same("size alone", "7", Kit.city(x, "size 2 3"));
        Kit.due("as at first: sand", 0, () -> x.pane(2, 2));
        Kit.due("as at first: heat", 10, () -> x.pane(1, 1));
        Kit.due("as at first: owner", 0, () -> x.pane(3, 4));
        Kit.due("no carts", 0, () -> x.count(2));
        Kit.due("fault", -1, x::fault);
    }

    private static void wrongCities() {
        Kit.wrongCity("size", 4);
        Kit.wrongCity("size  ", 6);
        Kit.wrongCity("size 0 1", 5);
        Kit.wrongCity("size 7 1", 5);
        Kit.wrongCity("size 1 0", 7);
        Kit.wrongCity("size 6 6", 7);
        Kit.wrongCity("size 3 3 3", 9);
        Kit.wrongCity("size 3 3 x", 9);
        Kit.wrongCity("size 3,3", 6);
        Kit.wrongCity("Size 3 3", 0);
        Kit.wrongCity("sizes 3 3", 0);
        Kit.wrongCity("siz 3 3", 0);
        Kit.wrongCity("sizea 3 3", 0);
        Kit.wrongCity("sizez 3 3", 0);
        Kit.wrongCity("size{3 3", 4);
        Kit.wrongCity("size`3 3", 4);
        Kit.wrongCity("size/3 3", 4);
        Kit.wrongCity("size:3 3", 4);
        Kit.wrongCity("size 3:3", 6);
        Kit.wrongCity("size 3/3", 6);
        Kit.wrongCity(" 3", 1);
        Kit.wrongCity(";", 0);
        Kit.wrongCity("size 3 3;", 9);
        Kit.wrongCity("size 3 3; ", 10);
        Kit.wrongCity("size 3 3;;size 3 3", 9);
        Kit.wrongCity("size 0003 3", 5);
        Kit.wrongCity("size 003 0003", 9);
        Kit.wrongCity("size -1 3", 5);
        Kit.wrongCity("size" + (char) 0 + "3 3", 4);
        Kit.wrongCity("size 3 3" + (char) 233, 8);
        Kit.wrongCity("size 3 3" + (char) 9, 8);
        Kit.wrongCity("thick 3 0 1", 6);
        Kit.wrongCity("thick 2 3 1", 8);
        Kit.wrongCity("thick 2 2 0", 10);
        Kit.wrongCity("thick 2 2 10", 10);
        Kit.wrongCity("thick 2 2 1000", 10);
        Kit.wrongCity("size 1 5;thick 1 0 4", 15);
        Kit.wrongCity("size 1 5;thick 0 4 4;thick 0 5 4", 29);
        Kit.wrongCity("heat 0 0 61", 9);
        Kit.wrongCity("heat 0 0 -1", 9);
        Kit.wrongCity("cold 0 0 41", 9);
        Kit.wrongCity("sand 0 0 101", 9);
        Kit.wrongCity("owner 0 0 8", 10);
        Kit.wrongCity("lamp 0 0 100", 9);
        Kit.wrongCity("cart 0 0 0 1 to 2", 5);
        Kit.wrongCity("cart 201 0 0 1 to 2", 5);
        Kit.wrongCity("cart 1 3 0 1 to 2", 7);
        Kit.wrongCity("cart 1 0 3 1 to 2", 9);
        Kit.wrongCity("cart 1 0 0 24 to 2", 11);
        Kit.wrongCity("cart 1 0 0 1 to 24", 16);
        Kit.wrongCity("cart 1 0 0 1 2", 13);
        Kit.wrongCity("cart 1 0 0 1 tofelt", 13);
        Kit.wrongCity("cart 1 0 0 1", 12);
        Kit.wrongCity("cart 1 0 0 1 to", 15);
        Kit.wrongCity("cart 1 0 0 1 to 2 fel", 18);
        Kit.wrongCity("cart 1 0 0 1 to 2 felt felt", 23);
        Kit.wrongCity("hide", 0);
        everyEnd("size 3 3");
        everyEnd("thick 2 2 9");
        everyEnd("heat 2 2 60");
        everyEnd("cold 2 2 40");
        everyEnd("sand 2 2 100");
        everyEnd("owner 2 2 7");
        everyEnd("lamp 2 2 99");
        everyEnd("cart 200 2 2 23 to 23");
        Kit.of("heat 0 0 0;sand 0 0 0;owner 0 0 0;lamp 0 0 0;cold 0 0 0;thick 0 0 1;cart 1 0 0 0 to 0");
    }

    /** A line of which the last things are not there yet: more must come. */
    private static void everyEnd(String line) {
        for (int end = line.lastIndexOf(' '); end > 0; end = line.lastIndexOf(' ', end - 1)) {
            Kit.wrongCity(line.substring(0, end), end);
            Kit.wrongCity("size 3 3;" + line.substring(0, end + 1) + "  ", end + 12);
            Kit.wrongCity(line.substring(0, end) + ";size 3 3", end);
        }
    }

    private static void tooMuch() {
        String line = "size 1 1;";
        Kit.of(line.repeat(13) + "size 1 1");
        Kit.wrongCity(line.repeat(14) + "size 1 1", 126);
        Kit.wrongCity(line.repeat(14) + "  size 1 1", 128);
        Kit.wrongCity(line.repeat(14), 126);
        Kit.wrongCity(line.repeat(14) + " nonsense", 127);
        String cart = "cart 1 0 0 1 to 2;";
        Kit.wrongCity(cart.repeat(12) + " cart 999", 217);
        GlassCity x = Kit.of(cart.repeat(11) + "cart 1 0 0 1 to 2");
        Kit.due("12 carts", 12, () -> x.count(2));
        Kit.same("one more in another text", Kit.ARGUMENT, Kit.city(x, "lamp 0 0 1;cart 1 0 0 1 to 2"));
        Kit.due("fault", 11, x::fault);
        Kit.due("no lamp", 0, () -> x.pane(0, 5));
        Kit.same("behind a size there is room", "2", Kit.city(x, "size 3 3;cart 1 0 0 1 to 2"));
        Kit.due("1 cart", 1, () -> x.count(2));
    }

    private static void tenTexts() {
        GlassCity x = new GlassCity();
        for (int n = 1; n <= 9; n++) {
            Kit.same("text " + n, n, Kit.city(x, "thick 0 0 " + n));
        }
        x.strew(0, 5);
        Kit.same("wrong ones do not count", Kit.ARGUMENT, Kit.city(x, "thick"));
        Kit.due("an act", 1, () -> x.count(8));
        Kit.same("text 10", "10", Kit.city(x, ""));
        Kit.due("no act", 0, () -> x.count(8));
        x.strew(0, 6);
        Kit.same("a wrong one is told first", Kit.ARGUMENT, Kit.city(x, "thick 0 0 10"));
        Kit.due("fault", 10, x::fault);
        Kit.same("text 11", Kit.UNSUPPORTED, Kit.city(x, "thick 0 0 1"));
        Kit.due("it was right", -1, x::fault);
        Kit.due("the tape is used up", false, () -> x.end(1));
        Kit.due("10 texts", 10, () -> x.count(3));
        Kit.due("nothing else happened", 9, () -> x.pane(0, 0));
        Kit.due("acts stay", 1, () -> x.count(8));
        Kit.same("an empty one is one, too", Kit.UNSUPPORTED, Kit.city(x, ""));
    }

    private static void nothingStays() {
        GlassCity x = Kit.of("size 4 2;cart 9 3 1 2 to 3;heat 1 1 30");
        x.seer();
        x.offer(0, 7, 44);
        x.strew(2, 50);
        Kit.same("wrong", Kit.ARGUMENT, Kit.city(x, "size 2 2;thick 0 0 9;cart 1 0 0 1 to 2;thick 2 0 1"));
        Kit.due("fault", 45, x::fault);
        Kit.due("the tape is used up", false, () -> x.end(1));
        Kit.due("wide", 4, () -> x.count(0));
        Kit.due("carts", 1, () -> x.count(2));
        Kit.due("weight", 9, () -> x.cart(0, 0));
        Kit.due("thick", 4, () -> x.pane(0, 0));
        Kit.due("heat", 30, () -> x.pane(5, 1));
        Kit.due("sand", 50, () -> x.count(9));
        Kit.due("offer", 44, () -> x.offer(0, 7, 44));
        Kit.due("acts", 1, () -> x.count(8));
        Kit.due("texts", 1, () -> x.count(3));
        Kit.same("size", "2", Kit.city(x, "size 4 2"));
        Kit.due("nothing offered", 0, () -> x.offer(0, 7, 1));
        Kit.due("seers stay", 1, () -> x.count(5));
    }

    private static void rightShames() {
        GlassCity x = new GlassCity();
        Kit.same("empty", "0", Kit.shame(x, ""));
        Kit.due("none is not without one", 0, () -> x.count(4));
        Kit.same("one", "1", Kit.shame(x, " hide "));
        Kit.same("in place of it", "2", Kit.shame(x, "show;fine 0"));
        Kit.due("seen", true, () -> x.seen(0, 0));
        Kit.same("twelve", "12", Kit.shame(x, "hide;".repeat(11) + "hide"));
        Kit.same("close together", "1", Kit.shame(x, "fine 5if(not sand+1>2or(hour<3))and 1<2"));
        Kit.same("six deep", "1", Kit.shame(x, "hide if not(not(not(sand>1)))"));
        Kit.same("six deep, twice", "1", Kit.shame(x, "hide if ((((((1<2)))))) and not not not not not not 1<2"));
        Kit.same("long", "1", Kit.shame(x, "hide if 0" + "+1".repeat(190) + ">189"));
        Kit.due("all is counted", false, () -> x.seen(0, 12));
        Kit.same("long", "1", Kit.shame(x, "hide if 0" + "+1".repeat(190) + ">190"));
        Kit.due("all is counted", true, () -> x.seen(0, 12));
        Kit.same("blanks", "0", Kit.shame(x, "    "));
    }

    private static void wrongShames() {
        Kit.wrongShame("look", 0);
        Kit.wrongShame("hideif 1<2", 0);
        Kit.wrongShame("hide if 1<2 anda 1<2", 12);
        Kit.wrongShame("hide if 1<2 orz 1<2", 12);
        Kit.wrongShame("hide if 1<2 or 1<2 and 1<2 or", 29);
        Kit.wrongShame("hide if (1<2 or 1<2 and 1<2", 27);
        Kit.wrongShame("hide if 1<2 and not", 19);
        Kit.wrongShame("hide if", 7);
        Kit.wrongShame("hide if ", 8);
        Kit.wrongShame("hide;", 5);
        Kit.wrongShame("hide 5", 5);
        Kit.wrongShame("hide hide", 5);
        Kit.wrongShame("fine", 4);
        Kit.wrongShame("fine if 1<2", 5);
        Kit.wrongShame("fine 1000", 5);
        Kit.wrongShame("fine 1 2", 7);
        Kit.wrongShame("hide if 1", 9);
        Kit.wrongShame("hide if 1<", 10);
        Kit.wrongShame("hide if 1=2", 9);
        Kit.wrongShame("hide if 1<2<3", 11);
        Kit.wrongShame("hide if 1<2 and", 15);
        Kit.wrongShame("hide if 1<2 or or", 15);
        Kit.wrongShame("hide if 1<2 andthick<2", 12);
        Kit.wrongShame("hide if 1<2 xor 1<2", 12);
        Kit.wrongShame("hide if 1+<2", 10);
        Kit.wrongShame("hide if +1<2", 8);
        Kit.wrongShame("hide if 1-1<2", 9);
        Kit.wrongShame("hide if 1000<2", 8);
        Kit.wrongShame("hide if 1<2000", 10);
        Kit.wrongShame("hide if heat<2", 8);
        Kit.wrongShame("hide if lamp<2", 8);
        Kit.wrongShame("hide if sands<2", 8);
        Kit.wrongShame("hide if (1<2", 12);
        Kit.wrongShame("hide if (1<2;hide", 12);
        Kit.wrongShame("hide if (1)<2", 10);
        Kit.wrongShame("hide if ()", 9);
        Kit.wrongShame("hide if 1<2)", 11);
        Kit.wrongShame("hide if not", 11);
        Kit.wrongShame("hide if 1<not 2", 10);
        Kit.wrongShame("hide if 1<(2)", 10);
        Kit.wrongShame("hide if (((((((1<2)))))))", 14);
        Kit.wrongShame("hide if not (not (not ( not 1<2)))", 24);
        Kit.wrongShame("hide if (((((( not 1<2))))))", 15);
        Kit.wrongShame("hide if not not not not not not (1<2)", 32);
        Kit.wrongShame("hide;".repeat(12) + "hide", 60);
        Kit.wrongShame("hide;".repeat(12) + " ", 61);
        Kit.wrongShame("size 3 3", 0);
        Kit.wrongShame("hide" + (char) 200, 4);
    }

    private static void faults() {
        GlassCity x = new GlassCity();
        Kit.due("ahead of any", -1, x::fault);
        Kit.same("wrong shame", Kit.ARGUMENT, Kit.shame(x, "show if"));
        Kit.due("fault", 7, x::fault);
        Kit.due("no shame", -1, () -> x.count(4));
        Kit.due("used up", false, () -> x.end(1));
        Kit.same("right city", "1", Kit.city(x, ""));
        Kit.due("none", -1, x::fault);
        Kit.same("right shame", "2", Kit.shame(x, "show;fine 3"));
        Kit.same("wrong shame", Kit.ARGUMENT, Kit.shame(x, "hide;fine 4;fine 9999"));
        Kit.due("fault", 17, x::fault);
        Kit.due("the shame before stays", 3, () -> x.fined(0, 0));
        Kit.due("its lines", 2, () -> x.count(4));
        Kit.due("another call", Kit.BOUNDS, () -> x.pane(9, 0));
        Kit.due("fault stays", 17, x::fault);
        Kit.same("wrong city", Kit.ARGUMENT, Kit.city(x, "x"));
        Kit.due("fault", 0, x::fault);
        x.image();
        Kit.same("right city", "2", Kit.city(x, ""));
        x.back();
        Kit.due("fault is not gone back to", -1, x::fault);
    }
}
