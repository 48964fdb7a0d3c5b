import java.io.File;
import java.io.IOException;
import java.lang.reflect.Method;
import java.lang.reflect.Modifier;
import java.nio.file.Files;
import java.nio.file.Path;
import java.util.concurrent.Callable;
import java.util.regex.Matcher;
import java.util.regex.Pattern;

/** What README.md says of the use of the class holds: its calls, its texts, and the names of calls and tests. */
public final class ReadmeTest {
    private static String page = "";
    private static String[] calls = {};
    private static int said = 0;

    public static void main(String[] args) throws IOException {
        page = Files.readString(Path.of("README.md"));
        calls = block("```java\n", 0).split("\n");
        example();
        texts();
        names();
        Kit.finish("ReadmeTest");
    }

    /** What stands behind the n-th fence (0 the first) that begins so. */
    private static String block(String fence, int n) {
        int at = page.indexOf(fence);
        for (int i = 0; i < n; i++) {
            at = page.indexOf(fence, at + 1);
        }
        return page.substring(at + fence.length(), page.indexOf("\n```", at));
    }

    private static void example() {
        GlassCity x = new GlassCity();
        Kit.same("the first line", "GlassCity x = new GlassCity();", calls[0]);
        says("x.count(0);", () -> x.count(0));
        says("x.feed(0x73697a65, 0x20342032, 0x3b636f6c, 0x64203120, 0x31203500);",
                () -> x.feed(0x73697a65, 0x20342032, 0x3b636f6c, 0x64203120, 0x31203500));
        says("x.end(19);", () -> x.end(19));
        says("x.city();", x::city);
        Kit.due("wide", 4, () -> x.count(0));
        Kit.due("high", 2, () -> x.count(1));
        says("x.fault();", x::fault);
        says("x.pane(5, 6);", () -> x.pane(5, 6));
        says("x.would(5, 200);", () -> x.would(5, 200));
        says("x.blow(5, 200);", () -> x.blow(5, 200));
        says("x.pane(5, 6);", () -> x.pane(5, 6));
        says("x.parade(0, 7, 12, 130, GlassCity.NONE);", () -> x.parade(0, 7, 12, 130, GlassCity.NONE));
        says("x.parade(0, 7, 12, 130, 1);", () -> x.parade(0, 7, 12, 130, 1));
        says("x.heaviest(0, 7, 12);", () -> x.heaviest(0, 7, 12));
        says("x.round();", x::round);
        says("x.mend();", x::mend);
        says("x.count(6);", () -> x.count(6));
        says("x.undo();", x::undo);
        Kit.same("every line of the example", calls.length - 1, said);
    }

    /** The next line of the example is this call, and the answer stands behind it. */
    private static void says(String call, Callable<?> made) {
        said++;
        Matcher line = Pattern.compile("(.*;) +// (-?\\w+)(: .*)?").matcher(said < calls.length ? calls[said] : "");
        boolean whole = line.matches();
        Kit.same("line " + said + " of the example", call, whole ? line.group(1) : "no such line");
        Kit.due(call, whole ? line.group(2) : "nothing", made);
    }

    private static void texts() {
        GlassCity x = new GlassCity();
        Kit.same("the text of the city", 1, Kit.city(x, block("```text\n", 0)));
        Kit.due("its cart", 1, () -> x.cart(0, 4));
        Kit.same("the text of shame", 3, Kit.shame(x, block("```text\n", 1)));
    }

    private static void names() {
        for (Method m : GlassCity.class.getDeclaredMethods()) {
            if (Modifier.isPublic(m.getModifiers())) {
                Kit.same(m.getName() + " is named", true, page.contains("`" + m.getName() + "`"));
            }
        }
        for (String file : new File("src/test/java").list()) {
            if (file.endsWith("Test.java")) {
                Kit.same(file + " is named", true, page.contains("| " + file.replace(".java", "") + " |"));
            }
        }
    }
}
