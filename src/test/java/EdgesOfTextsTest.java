import java.util.ArrayList;
import java.util.List;

/** Terms, ==== 1: texts of the city and of shame, and the first wrong byte: each sentence with its edges. */
public final class EdgesOfTextsTest {
    private static final String[] LINES = {"size 6 5", "thick 2 2 9", "heat 2 2 60", "cold 2 2 40", "sand 2 2 100", "owner 2 2 7",
        "lamp 2 2 99", "cart 200 2 2 23 to 23", "cart 200 2 2 23 to 23 felt"};
    private static final String LAW = "fine 999 if not ( thick + 1 < 2 and sand > 3 or cracks < 4 ) or hour + light > owner + load";

    public static void main(String[] args) {
        textsAndLines();
        kindsOfLines();
        size();
        places();
        heats();
        laws();
        conditions();
        sums();
        digits();
        words();
        blanks();
        empty();
        deep();
        wrongNumbers();
        wrongWords();
        tooDeep();
        tooMany();
        moreMustCome();
        nothingStays();
        endOfTape();
        Kit.finish("EdgesOfTextsTest");
    }

    private static String[] things(String line) {
        return line.split(" ");
    }

    private static String firstThings(String line, int n) {
        return String.join(" ", List.of(things(line)).subList(0, n));
    }

    /** The line with another thing in place of its i-th one, which begins at start(line, i) as before. */
    private static String with(String line, int i, String thing) {
        String[] all = things(line);
        all[i] = thing;
        return String.join(" ", all);
    }

    private static int start(String line, int i) {
        return i == 0 ? 0 : firstThings(line, i).length() + 1;
    }

    private static boolean isNumber(String thing) {
        return thing.charAt(0) >= '0' && thing.charAt(0) <= '9';
    }

    private static void rightShame(String text, int lines) {
        GlassCity x = new GlassCity();
        Kit.same("shame " + text, lines, Kit.shame(x, text));
        Kit.due("fault of " + text, -1, x::fault);
    }

    private static void textsAndLines() {
        Kit.sentence("THE CITY is told in texts (at most 10, one behind another): LINE { ; LINE }, at most 14");
        GlassCity x = new GlassCity();
        for (int n = 1; n <= 10; n++) {
            Kit.same("text " + n, n, Kit.city(x, "lamp " + (n - 1) % 3 + " " + (n - 1) / 3 % 3 + " " + n));
        }
        Kit.same("an 11th", Kit.UNSUPPORTED, Kit.city(x, "lamp 0 0 50"));
        Kit.due("what the 10th told", 10, () -> x.pane(0, 5));
        Kit.due("what the 2nd told is still so", 2, () -> x.pane(1, 5));
        String line = "lamp 0 0 ";
        StringBuilder text = new StringBuilder(line + 1);
        for (int n = 2; n <= 14; n++) {
            text.append(";").append(line).append(n);
            GlassCity y = Kit.of(text.toString());
            int due = n;
            Kit.due("the last of " + n + " LINES", due, () -> y.pane(0, 5));
        }
        Kit.wrongCity(text + ";" + line + 15, text.length() + 1);
        Kit.wrongCity("lamp 0 0 1 lamp 0 0 2", 11);
        Kit.wrongCity(";lamp 0 0 1", 0);
        Kit.wrongCity("lamp 0 0 1;;lamp 0 0 1", 11);
    }

    private static void kindsOfLines() {
        Kit.sentence("size W H | thick X Y N | heat X Y N | cold X Y N | sand X Y N | owner X Y O | lamp X Y N | cart W X Y H to H [ felt ].");
        for (String line : LINES) {
            Kit.of(line);
            Kit.of("size 6 5;" + line);
            Kit.wrongCity(line + " 1", line.length() + 1);
            Kit.wrongCity(line + " size", line.length() + 1);
            Kit.wrongCity(line + ",", line.length());
            for (int i = 1; i < things(line).length; i++) {
                boolean number = isNumber(things(line)[i]);
                Kit.wrongCity(with(line, i, number ? "to" : "9"), start(line, i));
                Kit.wrongCity(with(line, i, ";"), start(line, i) + (things(line)[i].equals("felt") ? 1 : 0));
            }
        }
    }

    private static void size() {
        Kit.sentence("size: all PANES are as at first then, no CARTS, nothing offered.");
        GlassCity x = Kit.of("size 6 5;thick 5 4 9;cold 5 4 9;sand 5 4 9;owner 5 4 5;lamp 5 4 9;cart 9 5 4 1 to 2;thick 0 0 2;cart 9 0 0 1 to 2");
        for (int n = 0; n < 6; n++) {
            x.seer();
            x.offer(n, 29, 99);
            x.offer(n, 0, 98);
        }
        Kit.crack(x, 29, 3);
        Kit.crack(x, 0, 1);
        Kit.same("the same size", "2", Kit.city(x, "lamp 0 0 7;size 6 5;sand 1 0 5"));
        int[] due = {4, 10, 0, 0, 0, 0, 160};
        for (int what = 0; what < 7; what++) {
            int w = what;
            Kit.due("pane 0: " + what, due[what], () -> x.pane(0, w));
            Kit.due("pane 29: " + what, due[what], () -> x.pane(29, w));
        }
        Kit.due("a LINE behind it counts", 5, () -> x.pane(1, 2));
        Kit.due("no carts", 0, () -> x.count(2));
        Kit.due("no cracks", 0, () -> x.count(6));
        for (int n = 0; n < 6; n++) {
            int seer = n;
            Kit.due("nothing offered for the last", 0, () -> x.offer(seer, 29, 0));
            Kit.due("nothing offered for the first", 0, () -> x.offer(seer, 0, 0));
        }
        Kit.due("the seers are there", 6, () -> x.count(5));
    }

    private static void places() {
        Kit.sentence("X, Y: a PANE (X and Y, each in its bound).");
        for (int wide = 1; wide <= 6; wide++) {
            for (int high = 1; high <= 5; high++) {
                String size = "size " + wide + " " + high + ";";
                for (int i = 1; i < LINES.length; i++) {
                    int at = LINES[i].startsWith("cart") ? 2 : 1;
                    String line = with(with(LINES[i], at, "" + (wide - 1)), at + 1, "" + (high - 1));
                    Kit.of(size + line);
                    Kit.wrongCity(size + with(line, at, "" + wide), size.length() + start(line, at));
                    Kit.wrongCity(size + with(line, at + 1, "" + high), size.length() + start(line, at + 1));
                    Kit.wrongCity(size + with(with(line, at, "" + wide), at + 1, "" + high), size.length() + start(line, at));
                }
            }
        }
        Kit.wrongCity("size 6 5;size 2 2;thick 2 0 1", 24);
        Kit.wrongCity("thick 3 0 1;size 6 5", 6);
    }

    private static void heats() {
        Kit.sentence("cold: HEAT is 0 less N (0 to 40).");
        Kit.due("cold 0", 0, () -> Kit.of("cold 0 0 0").pane(0, 1));
        Kit.due("cold 1", -1, () -> Kit.of("cold 0 0 1").pane(0, 1));
        Kit.due("cold 40", -40, () -> Kit.of("cold 0 0 40").pane(0, 1));
        Kit.wrongCity("cold 0 0 41", 9);
        Kit.sentence("heat: 0 to 60.");
        Kit.due("heat 0", 0, () -> Kit.of("heat 0 0 0").pane(0, 1));
        Kit.due("heat 60", 60, () -> Kit.of("heat 0 0 60").pane(0, 1));
        Kit.wrongCity("heat 0 0 61", 9);
        Kit.wrongCity("heat 0 0 - 1", 9);
    }

    private static void laws() {
        Kit.sentence("SHAME (a text, in place of the one before): LINE { ; LINE }, at most 12: hide [ if C ] | show [ if C ] | fine N [ if C ].");
        GlassCity x = new GlassCity();
        Kit.same("a law", "2", Kit.shame(x, "show;fine 5"));
        Kit.due("it counts", 5, () -> x.fined(0, 0));
        Kit.same("another", "1", Kit.shame(x, "show"));
        Kit.due("in place of it", 0, () -> x.fined(0, 0));
        for (int n = 1; n <= 12; n++) {
            rightShame("fine 9;".repeat(n - 1) + "hide", n);
        }
        Kit.wrongShame("fine 9;".repeat(12) + "hide", 84);
        rightShame("hide;show;fine 0;hide if 1<2;show if 1<2;fine 999 if 1<2", 6);
        Kit.wrongShame("hide show", 5);
        Kit.wrongShame("hide 5 if 1<2", 5);
        Kit.wrongShame("show 5", 5);
        Kit.wrongShame("fine if 1<2", 5);
        Kit.wrongShame("fine 5 5", 7);
        Kit.wrongShame("if 1<2", 0);
        Kit.wrongShame(";hide", 0);
        Kit.wrongShame("hide;;hide", 5);
    }

    private static void told(GlassCity x, String condition, boolean due) {
        Kit.same("law of " + condition, "1", Kit.shame(x, "show if " + condition));
        Kit.due(condition, due, () -> x.seen(0, 0));
    }

    /** All ways to join four atoms that hold or not by and and or: and binds first. */
    private static void conditions() {
        Kit.sentence("C: ALL { or ALL }; ALL: ATOM { and ATOM }; ATOM: not ATOM | ( C ) | SUM < SUM | SUM > SUM.");
        GlassCity x = new GlassCity();
        for (int joins = 0; joins < 8; joins++) {
            for (int holds = 0; holds < 16; holds++) {
                StringBuilder text = new StringBuilder();
                boolean any = false;
                boolean all = true;
                for (int i = 0; i < 4; i++) {
                    boolean atom = (holds >> i & 1) != 0;
                    text.append(atom ? "0<1" : "0>1");
                    all &= atom;
                    boolean or = i == 3 || (joins >> i & 1) != 0;
                    text.append(i == 3 ? "" : or ? " or " : " and ");
                    any |= or && all;
                    all |= or;
                }
                told(x, text.toString(), any);
                told(x, "not (" + text + ")", !any);
            }
        }
        told(x, "0 < 0", false);
        told(x, "0 > 0", false);
        told(x, "not 0 < 0 and 0 > 0", false);
        told(x, "not 0 < 1 or 0 < 1", true);
    }

    private static void sums() {
        Kit.sentence("SUM: PART { + PART }; PART: NUMBER | thick | sand | cracks | hour | light | owner | load.");
        GlassCity x = Kit.of("thick 0 0 9;sand 0 0 100;owner 0 0 7;lamp 0 0 19;" + "cart 200 0 0 0 to 0;".repeat(2) + "cart 50 0 0 0 to 0 felt");
        Kit.crack(x, 0, 2);
        String[] parts = {"thick", "sand", "cracks", "hour", "light", "owner", "load"};
        int[] values = {9, 100, 2, 0, 19, 7, 850};
        for (int i = 0; i < parts.length; i++) {
            told(x, parts[i] + " < " + (values[i] + 1), true);
            told(x, parts[i] + " < " + values[i], false);
            told(x, parts[i] + " + 1 > " + values[i], true);
            told(x, parts[i] + " > " + values[i], false);
        }
        String sum = String.join("+", parts);
        told(x, sum + " > 986", true);
        told(x, sum + " > 987", false);
        told(x, "986 < " + sum, true);
        told(x, "987 < " + sum, false);
        told(x, "999 + 999 + 999 > 999 + 999 + 998", true);
        told(x, "999 + 999 + 999 > 999 + 999 + 999", false);
    }

    private static void digits() {
        Kit.sentence("All numbers are of 1 to 3 digits.");
        for (String line : LINES) {
            for (int i = 1; i < things(line).length; i++) {
                String thing = things(line)[i];
                if (isNumber(thing)) {
                    Kit.of(with(line, i, "0".repeat(3 - thing.length()) + thing));
                    Kit.wrongCity(with(line, i, "0".repeat(4 - thing.length()) + thing), start(line, i));
                    Kit.wrongCity(with(line, i, "0".repeat(30) + thing), start(line, i));
                    Kit.wrongCity(with(line, i, "99999999999999999999"), start(line, i));
                }
            }
        }
        for (int i = 1; i < things(LAW).length; i++) {
            if (isNumber(things(LAW)[i])) {
                for (String number : new String[] {"0", "00", "000", "7", "77", "999"}) {
                    rightShame(with(LAW, i, number), 1);
                }
                Kit.wrongShame(with(LAW, i, "0000"), start(LAW, i));
                Kit.wrongShame(with(LAW, i, "1000"), start(LAW, i));
                Kit.wrongShame(with(LAW, i, "4294967296"), start(LAW, i));
            }
        }
    }

    private static void words() {
        Kit.sentence("Words are as long as a to z go on");
        Kit.of("size6 5;thick5 4 9;cart200 5 4 23to0felt");
        rightShame("fine 1if not(1<thick)and sand>1or hour<1;hide", 2);
        for (String line : LINES) {
            for (int i = 0; i < things(line).length; i++) {
                String thing = things(line)[i];
                if (!isNumber(thing)) {
                    Kit.wrongCity(with(line, i, thing + "a"), start(line, i));
                    Kit.wrongCity(with(line, i, thing + "z"), start(line, i));
                    Kit.wrongCity(with(line, i, thing + thing), start(line, i));
                    Kit.wrongCity(with(line, i, thing.substring(0, thing.length() - 1)), start(line, i));
                    Kit.wrongCity(with(line, i, thing.toUpperCase()), start(line, i));
                    // what is no letter ends the word: it is the wrong thing itself
                    Kit.wrongCity(with(line, i, thing + "{"), start(line, i) + thing.length());
                    Kit.wrongCity(with(line, i, thing + "`"), start(line, i) + thing.length());
                    Kit.wrongCity(with(line, i, thing + "S"), start(line, i) + thing.length());
                }
            }
        }
    }

    private static void blanks() {
        Kit.sentence("between all there may be blanks (32), also ahead and behind.");
        for (String line : LINES) {
            Kit.of("   " + line.replace(" ", "    ") + "  ;   " + line + "   ");
            for (char sign : new char[] {0, 1, 9, 10, 13, 31, 33, 127, 160, 255}) {
                Kit.wrongCity(sign + line, 0);
                Kit.wrongCity(line + sign, line.length());
                Kit.wrongCity(" " + line + " " + sign, line.length() + 2);
                Kit.wrongCity(line.replaceFirst(" ", "" + sign), line.indexOf(' '));
            }
        }
        rightShame("   " + LAW.replace(" ", "   ") + "   ", 1);
        for (String closed : new String[] {"fine 999if not(thick+1<2and sand>3or cracks<4)or hour+light>owner+load", "hide;hide", "hide if(1<2)"}) {
            rightShame(closed, closed.equals("hide;hide") ? 2 : 1);
        }
        Kit.of(" ".repeat(392) + "size 2 2");
        Kit.of("size 2 2" + " ".repeat(392));
    }

    private static void empty() {
        Kit.sentence("A text that is empty, or blanks alone, has no LINE.");
        GlassCity x = Kit.of("lamp 0 0 7");
        Kit.same("a law", "1", Kit.shame(x, "hide"));
        String before = Kit.state(x).replaceFirst("3 3 0 1 ", "");
        int n = 1;
        for (String text : new String[] {"", " ", " ".repeat(400)}) {
            n++;
            Kit.same("city", n, Kit.city(x, text));
            Kit.due("fault", -1, x::fault);
            Kit.same("nothing but the number of texts", before, Kit.state(x).replaceFirst("3 3 0 " + n + " ", ""));
        }
        for (String text : new String[] {"", " ", " ".repeat(400)}) {
            Kit.same("a law", "1", Kit.shame(x, "hide"));
            Kit.same("shame", "0", Kit.shame(x, text));
            Kit.due("fault", -1, x::fault);
            Kit.due("no LINES", 0, () -> x.count(4));
            Kit.due("by light", true, () -> x.seen(0, 12));
        }
    }

    /** All ways to go so deep, by ( or by not. */
    private static List<String> waysDown(int deep) {
        List<String> all = new ArrayList<>();
        for (int way = 0; way < 1 << deep; way++) {
            StringBuilder text = new StringBuilder();
            for (int i = 0; i < deep; i++) {
                text.append((way >> i & 1) != 0 ? "(" : "not ");
            }
            all.add(text.toString());
        }
        return all;
    }

    private static String closed(String way) {
        return way + "1<2" + ")".repeat((int) way.chars().filter(c -> c == '(').count());
    }

    private static void deep() {
        Kit.sentence("( and not within one another at most 6 deep.");
        for (String way : waysDown(6)) {
            rightShame("hide if " + closed(way), 1);
            // beside one another they are no deeper
            rightShame("hide if " + closed(way) + " and " + closed(way) + ";hide if " + closed(way) + " or " + closed(way), 2);
        }
        GlassCity x = new GlassCity();
        for (String way : waysDown(6)) {
            boolean due = way.replace("(", "").length() / 4 % 2 == 0;
            told(x, closed(way), due);
        }
        // an or and an and stand open at each depth, and sums at the deepest one
        String open = "2<1 or 1<2 and (".repeat(6) + "2<1 or 1<2 and ";
        told(x, open + "1+2+3 < 2+2+3" + ")".repeat(6), true);
        told(x, open + "1+2+3 < 2+2+2" + ")".repeat(6), false);
        told(x, open + "1+2+3 > 2+2+2" + ")".repeat(6) + " or 1<2", true);
    }

    private static void wrongNumbers() {
        Kit.sentence("The first wrong byte: the begin of the first thing that cannot stand there (a number of more digits, or out of its bounds;");
        String[] over = {"size 7 6", "thick 3 3 10", "heat 3 3 61", "cold 3 3 41", "sand 3 3 101", "owner 3 3 8", "lamp 3 3 100",
            "cart 201 3 3 24 to 24", "cart 201 3 3 24 to 24 felt"};
        for (int n = 0; n < LINES.length; n++) {
            for (int i = 1; i < things(LINES[n]).length; i++) {
                if (isNumber(things(LINES[n])[i])) {
                    String line = with(LINES[n], i, things(over[n])[i]);
                    Kit.wrongCity(line, start(line, i));
                    Kit.wrongCity("size 3 3 ;  " + line, 12 + start(line, i));
                    // what is wrong behind it is not the first
                    Kit.wrongCity(firstThings(line, i + 1) + " ?", start(line, i));
                }
            }
        }
        for (String line : new String[] {"size 0 1", "thick 0 0 0", "cart 0 0 0 0 to 0"}) {
            int at = line.startsWith("thick") ? 3 : 1;
            Kit.wrongCity(line, start(line, at));
        }
        Kit.wrongCity("size 1 0", 7);
    }

    private static void wrongWords() {
        Kit.sentence("a word that is none;");
        Kit.wrongCity("street 1 2", 0);
        Kit.wrongCity("size 3 3; pane 1 2", 10);
        Kit.wrongCity("show", 0);
        Kit.wrongShame("size 3 3", 0);
        Kit.wrongShame("hide; veil", 6);
        for (String word : new String[] {"heat", "lamp", "pane", "a", "thicker", "sun", "and", "if"}) {
            Kit.wrongShame("hide if " + word + " < 2", 8);
            Kit.wrongShame("hide if 2 < " + word, 12);
            Kit.wrongShame("hide if 2 < 3 + " + word, 16);
        }
        Kit.wrongShame("hide when 1<2", 5);
        Kit.wrongShame("hide if 1<2 nor 1<2", 12);
    }

    private static void tooDeep() {
        Kit.sentence("the ( or not that is a 7th one deep;");
        for (String way : waysDown(6)) {
            Kit.wrongShame("hide if " + way + "(1<2", 8 + way.length());
            Kit.wrongShame("hide if " + way + "  not 1<2", 10 + way.length());
            Kit.wrongShame("hide if 1<2 or " + way + "(", 15 + way.length());
            // without a 7th one it is another thing that is wrong
            Kit.wrongShame("hide if " + way, 8 + way.length());
            Kit.wrongShame("hide if " + way + ")", 8 + way.length());
        }
    }

    private static void tooMany() {
        Kit.sentence("of a LINE, or CART, too many the first word)");
        String line = "owner 0 0 1;";
        Kit.wrongCity(line.repeat(14) + "owner 0 0 1", 168);
        Kit.wrongCity(line.repeat(14) + "   size 1 1", 171);
        Kit.wrongCity(line.repeat(14) + "owner 9 9 9", 168);
        Kit.wrongShame("show;".repeat(12) + "show", 60);
        Kit.wrongShame("show;".repeat(12) + "   fine 1000", 63);
        String cart = "cart 1 0 0 0 to 0;";
        Kit.wrongCity(cart.repeat(12) + "cart 1 0 0 0 to 0", 216);
        Kit.wrongCity(cart.repeat(12) + "  cart 0 9 9 99 to 99", 218);
        Kit.wrongCity(cart.repeat(12) + "cart", 216);
        Kit.of(cart.repeat(12) + "owner 0 0 1");
        Kit.of(cart.repeat(12) + "size 1 1;" + "cart 1 0 0 0 to 0");
        GlassCity x = Kit.of(cart.repeat(11) + "cart 1 0 0 0 to 0");
        Kit.same("a 13th in the next text", Kit.ARGUMENT, Kit.city(x, " cart 1 0 0 0 to 0"));
        Kit.due("fault", 1, x::fault);
    }

    private static void moreMustCome() {
        Kit.sentence("or the text's length, if more must come.");
        for (String line : LINES) {
            int least = things(line).length - (line.endsWith("felt") ? 1 : 0);
            for (int n = 1; n < least; n++) {
                String text = firstThings(line, n);
                Kit.wrongCity(text, text.length());
                Kit.wrongCity(text + "   ", text.length() + 3);
            }
            Kit.wrongCity(line + ";", line.length() + 1);
            Kit.wrongCity(line + " ;  ", line.length() + 4);
        }
        for (int n = 1; n < things(LAW).length; n++) {
            String text = firstThings(LAW, n);
            if (n == 2 || text.endsWith("< 4 )") || text.endsWith("> owner")) {
                rightShame(text, 1);
            } else {
                Kit.wrongShame(text, text.length());
                Kit.wrongShame(text + "  ", text.length() + 2);
            }
        }
        Kit.wrongCity("size 3 3;".repeat(14), 126);
        Kit.wrongShame("hide;".repeat(12), 60);
        Kit.wrongCity(" ".repeat(396) + "size", 400);
        Kit.wrongShame(" ".repeat(393) + "hide if", 400);
    }

    private static void nothingStays() {
        Kit.sentence("Of a wrong text nothing stays.");
        GlassCity x = Kit.of("size 4 3;thick 1 1 7;cold 1 1 7;sand 1 1 7;owner 1 1 7;lamp 1 1 7;cart 7 1 1 7 to 7");
        Kit.same("a law", "2", Kit.shame(x, "fine 5 if owner > 1;show if thick > 4"));
        x.seer();
        x.offer(0, 11, 7);
        x.blow(0, 999);
        String before = Kit.state(x);
        for (String line : LINES) {
            Kit.same("wrong", Kit.ARGUMENT, Kit.city(x, line + ";"));
            Kit.same("wrong", Kit.ARGUMENT, Kit.city(x, "thick 1 1 1;cart 1 0 0 1 to 1;" + line + ";size 2 2;size 9 9"));
            Kit.same("nothing of " + line, before, Kit.state(x));
        }
        for (String law : new String[] {"hide;", "hide;hide;hide;fine", "fine 9 if 1<2;show if (1<2", "show if not"}) {
            Kit.same("wrong", Kit.ARGUMENT, Kit.shame(x, law));
            Kit.same("nothing of " + law, before, Kit.state(x));
        }
        for (String law : new String[] {"fine", "fine 1000", "hide;fine", "hide;hide;fine 5 if"}) {
            Kit.same("wrong", Kit.ARGUMENT, Kit.shame(x, law));
            Kit.same("a right one behind it", "3", Kit.shame(x, "hide;show;hide if 1<2"));
            Kit.due("no fault", -1, x::fault);
        }
        GlassCity y = new GlassCity();
        Kit.same("wrong", Kit.ARGUMENT, Kit.shame(y, "hide;hide if"));
        Kit.due("still without a law", -1, () -> y.count(4));
        Kit.due("still by light", true, () -> y.seen(0, 12));
    }

    /** Feeds a text of which the tape keeps the first bytes alone. */
    private static void cut(GlassCity x, String text, int end) {
        Kit.feed(x, text);
        Kit.due("end", true, () -> x.end(end));
    }

    private static void endOfTape() {
        Kit.sentence("The TAPE has its first n bytes alone: true;");
        GlassCity x = new GlassCity();
        cut(x, "size 4 42", 8);
        Kit.due("a digit behind the end", 1, x::city);
        cut(x, "cart 9 0 0 1 to 2 felted", 22);
        Kit.due("a letter behind the end", 2, x::city);
        cut(x, "size 2 2;size 3 3", 8);
        Kit.due("a LINE behind the end", 3, x::city);
        Kit.due("it does not count", 2, () -> x.count(0));
        cut(x, "size 5 5;size 3 3", 11);
        Kit.due("half a word", Kit.ARGUMENT, x::city);
        Kit.due("fault", 9, x::fault);
        cut(x, "hide;hides", 9);
        Kit.due("a letter behind the end", 2, x::shame);
        cut(x, "fine 12345", 8);
        Kit.due("digits behind the end", 1, x::shame);
        cut(x, "hide if (1<2)", 12);
        Kit.due("a ) behind the end", Kit.ARGUMENT, x::shame);
        Kit.due("fault", 12, x::fault);
        cut(x, "hide;hide", 5);
        Kit.due("a word behind the end", Kit.ARGUMENT, x::shame);
        Kit.due("fault", 5, x::fault);
        cut(x, "hide    ?", 8);
        Kit.due("blanks at the end", 1, x::shame);
        cut(x, "?", 0);
        Kit.due("all cut off", 0, x::shame);
    }
}
