import java.io.IOException;
import java.lang.reflect.Field;
import java.lang.reflect.Method;
import java.lang.reflect.Modifier;
import java.nio.file.Files;
import java.nio.file.Path;
import java.util.ArrayList;
import java.util.Arrays;
import java.util.List;
import java.util.Set;
import java.util.TreeSet;
import java.util.regex.Matcher;
import java.util.regex.Pattern;

/** The public face, and the rules of LANGUAGE.md that can be seen in the class and in its text. */
public final class LanguageTest {
    private static final String I = "IndexOutOfBoundsException";
    private static final String A = "IllegalArgumentException";
    private static final String N = "NoSuchElementException";
    private static final String U = "UnsupportedOperationException";
    private static final String[] FACE = {
        "int feed(int,int,int,int,int)", "boolean end(int)", "int city()" + A + U, "int shame()" + A, "int fault()",
        "int pane(int,int)" + I + N, "int cart(int,int)" + I + N, "int strew(int,int)" + I + A, "int runs(int)" + A,
        "int load(int,int)" + I, "boolean holds(int,int,int)" + I + A, "int breaks(int)" + I, "int light(int,int,int)" + I + N,
        "int bill(int,int,int)" + I + A, "boolean seen(int,int)" + I, "int fined(int,int)" + I, "int seer()" + U,
        "int offer(int,int,int)" + I + A, "int sale(int,int)" + I, "int lost(int,int)" + I, "int share(int,int,int)" + I + A,
        "int weakest(int)" + I, "int strengthen(int,int,int,int)" + I + A, "int spread(int)", "int blow(int,int)" + I + A,
        "int would(int,int)" + I + A, "int trace(int,int,boolean)" + A, "int parade(int,int,int,int,int)" + I + A,
        "int heaviest(int,int,int)" + I, "int frost(int,int)" + A, "int odds()", "boolean may(int)", "int round()", "int mend()",
        "int rounds()", "int lamps(int,int)" + I, "boolean undo()", "void image()", "boolean back()", "int count(int)"};
    private static final Pattern METHOD = Pattern.compile(
            "^ {4}( {4})?(?:(?:public|private|static|final) )*[\\w\\[\\]]+ (\\w+)\\(([^)]*)\\)[^;]*$");

    public static void main(String[] args) throws IOException {
        face();
        members(GlassCity.class);
        for (Class<?> inside : GlassCity.class.getDeclaredClasses()) {
            Kit.same(inside + " is static", true, Modifier.isStatic(inside.getModifiers()));
            Kit.same(inside + " is not public", false, Modifier.isPublic(inside.getModifiers()));
            members(inside);
        }
        Kit.same("at most twelve classes", true, GlassCity.class.getDeclaredClasses().length <= 12);
        List<String> lines = Files.readAllLines(Path.of("src/main/java/GlassCity.java"));
        words(lines);
        objects(lines);
        methods(lines);
        Kit.finish("LanguageTest");
    }

    private static void face() {
        Set<String> due = new TreeSet<>(Arrays.asList(FACE));
        Set<String> got = new TreeSet<>();
        for (Method m : GlassCity.class.getDeclaredMethods()) {
            if (Modifier.isPrivate(m.getModifiers()) || m.isSynthetic()) {
                continue;
            }
            StringBuilder text = new StringBuilder(m.getReturnType() + " " + m.getName() + "(");
            for (Class<?> type : m.getParameterTypes()) {
                text.append(text.toString().endsWith("(") ? "" : ",").append(type);
            }
            text.append(")");
            for (Class<?> type : m.getExceptionTypes()) {
                text.append(type.getSimpleName());
            }
            got.add(text.toString());
            Kit.same(m.getName() + " is public", true, Modifier.isPublic(m.getModifiers()));
        }
        Kit.same("the face", due, got);
        Kit.same("40 methods", 40, got.size());
        Kit.same("one constructor", 1, GlassCity.class.getDeclaredConstructors().length);
        Kit.same("public and final", Modifier.PUBLIC | Modifier.FINAL, GlassCity.class.getModifiers());
    }

    private static void members(Class<?> type) {
        int own = 0;
        for (Field f : type.getDeclaredFields()) {
            boolean isStatic = Modifier.isStatic(f.getModifiers());
            own += isStatic ? 0 : 1;
            Kit.same(f + " is final if it is static", true, !isStatic || Modifier.isFinal(f.getModifiers()));
            if (type == GlassCity.class && !f.getName().equals("NONE")) {
                Kit.same(f + " is private", true, Modifier.isPrivate(f.getModifiers()));
            }
        }
        Kit.same(type + ": some twenty fields", true, own <= 20);
    }

    private static void words(List<String> lines) {
        String[] never = {"->", "::", "\\bfinally\\b", "\\bsynchronized\\b", "\\bassert\\b", "\\btry\\b", "\\bcatch\\b", "static \\{",
            "Exact\\(", "System\\.(?!arraycopy)", "\\binstanceof\\b", "\\bdouble\\b", "\\bfloat\\b", "\\bnull\\b", "\" \\+", "\\+ \"",
            "throw (?!new (IllegalArgument|IndexOutOfBounds|NoSuchElement|UnsupportedOperation)Exception\\(\\);)",
            "import (?!java\\.util\\.(Arrays|NoSuchElementException);)", "[^\\x20-\\x7e]"};
        for (int i = 0; i < lines.size(); i++) {
            String line = lines.get(i);
            for (String word : never) {
                Kit.same("line " + (i + 1) + " without " + word + ": " + line, false, Pattern.compile(word).matcher(line).find());
            }
        }
    }

    /** All calls of a run live in one room: but for exceptions, nothing is made outside the fields of an object. */
    private static void objects(List<String> lines) {
        Pattern field = Pattern.compile("^ {4}( {4})?private (final )?[\\w\\[\\]]+ \\w+ = new .*;$|^ {8}final [\\w\\[\\]]+ \\w+ = new .*;$");
        for (int i = 0; i < lines.size(); i++) {
            String line = lines.get(i);
            if (line.contains(" new ") && !line.contains("throw new ")) {
                Kit.same("line " + (i + 1) + " makes a field: " + line, true, field.matcher(line).matches());
            }
        }
    }

    private static void methods(List<String> lines) {
        Set<String> open = new TreeSet<>();
        for (String text : FACE) {
            open.add(text.substring(text.indexOf(' ') + 1, text.indexOf('(')));
        }
        List<String> found = new ArrayList<>();
        for (int i = 0; i < lines.size(); i++) {
            Matcher m = METHOD.matcher(lines.get(i));
            if (!m.matches() || m.group(2).equals("GlassCity") || lines.get(i).contains(" new ") || lines.get(i).contains("return ")) {
                continue;
            }
            String end = (m.group(1) == null ? "    " : "        ") + "}";
            int last = i;
            while (last < lines.size() && !lines.get(last).equals(end)) {
                last++;
            }
            found.add(m.group(2));
            Kit.same(m.group(2) + " is short", true, last - i < 60);
            Kit.same(m.group(2) + " has few parameters", true, m.group(3).split(",").length <= 7);
            boolean isOpen = lines.get(i).startsWith("    public ");
            Kit.same(m.group(2) + " bears no name of the face", isOpen, open.contains(m.group(2)));
        }
        Kit.same("methods are seen at all", true, found.size() > 100 && found.containsAll(open));
    }
}
