import java.lang.reflect.Field;
import java.lang.reflect.Method;
import java.lang.reflect.Modifier;
import java.nio.file.Files;
import java.nio.file.Path;
import java.util.HashSet;
import java.util.List;
import java.util.Set;
import java.util.TreeSet;
import java.util.regex.Matcher;
import java.util.regex.Pattern;

/** The face of the document, and the rules of LANGUAGE.md that can be seen in the text or the class. */
public final class LanguageTest {
    private static final String FACE = "glass iii, rod ii, pull ii, twist ii, cut ii, cased ii, drop i, about ii, "
            + "cell iii, view iiiii, table i, lay iiii, bundle i, book ii, tolerance i, cracks ii, wish i, want iii, "
            + "unlike i, plan ii, made i, slice i, see iii, fits i, whose , two ii, bowl iii, order i, clear , saw i, "
            + "sticks i, weigh iii, anew , bad i, next i, count i, trace ";
    private static final Check check = new Check("LanguageTest");

    public static void main(String[] args) throws Exception {
        face();
        constants();
        members(CaneHouse.class);
        for (Class<?> inner : CaneHouse.class.getDeclaredClasses()) {
            check.holds(inner + " is static", Modifier.isStatic(inner.getModifiers()));
            members(inner);
        }
        check.holds("some twelve classes", CaneHouse.class.getDeclaredClasses().length <= 12);
        text(Files.readString(Path.of("src/main/java/CaneHouse.java")));
        check.finish();
    }

    private static void face() throws Exception {
        check.holds("public and final", Modifier.isPublic(CaneHouse.class.getModifiers())
                && Modifier.isFinal(CaneHouse.class.getModifiers()));
        check.due("constructors", CaneHouse.class.getDeclaredConstructors().length, 1);
        check.holds("a public constructor", Modifier.isPublic(CaneHouse.class.getConstructor().getModifiers()));
        Set<String> due = new TreeSet<>();
        for (String row : FACE.split(", ")) {
            due.add(row.trim());
        }
        Set<String> got = new TreeSet<>();
        for (Method m : CaneHouse.class.getDeclaredMethods()) {
            if (!Modifier.isPrivate(m.getModifiers())) {
                got.add((m.getName() + " " + "i".repeat(m.getParameterCount())).trim());
                boolean isLong = m.getName().equals("book") || m.getName().equals("trace");
                check.holds(m.getName() + " answers as told", m.getReturnType() == (isLong ? long.class : int.class));
                check.holds(m.getName() + " is public", Modifier.isPublic(m.getModifiers()));
                for (Class<?> type : m.getParameterTypes()) {
                    check.holds(m.getName() + " takes ints", type == int.class);
                }
            }
        }
        check.holds("the face is " + due + ", not " + got, due.equals(got));
    }

    private static void constants() throws Exception {
        check.due("BAD", CaneHouse.BAD, -1);
        check.due("STATE", CaneHouse.STATE, -2);
        check.due("FULL", CaneHouse.FULL, -3);
        check.due("NONE", CaneHouse.NONE, -9);
        List<String> names = List.of("BAD", "STATE", "FULL", "NONE");
        for (Field f : CaneHouse.class.getDeclaredFields()) {
            int m = f.getModifiers();
            boolean isConstant = names.contains(f.getName()) && Modifier.isPublic(m);
            check.holds(f.getName() + " is private or a constant of the face", isConstant || Modifier.isPrivate(m));
        }
    }

    private static void members(Class<?> of) {
        Set<String> faceNames = new HashSet<>();
        for (String row : FACE.split(", ")) {
            faceNames.add(row.split(" ")[0]);
        }
        int fields = 0;
        for (Field f : of.getDeclaredFields()) {
            if (Modifier.isStatic(f.getModifiers())) {
                check.holds(f + " is final", Modifier.isFinal(f.getModifiers()));
            } else {
                fields++;
            }
        }
        check.holds(of + " has some twenty fields", fields <= 20);
        for (Method m : of.getDeclaredMethods()) {
            check.holds(m + " takes seven at most", m.getParameterCount() <= 7);
            boolean isOwn = of != CaneHouse.class || Modifier.isPrivate(m.getModifiers());
            check.holds(m + " bears no name of the face", !isOwn || !faceNames.contains(m.getName()));
        }
    }

    private static void text(String source) {
        String code = source.replaceAll("(?s)/\\*.*?\\*/", "").replaceAll("//[^\n]*", "");
        String[] banned = {
            "\\bthrow\\b", "\\bthrows\\b", "\\btry\\b", "\\bcatch\\b", "\\bsynchronized\\b", "\\bassert\\b",
            "->", "::", "Exact\\b", "\\bpackage\\b", "static\\s*\\{", "\\bSystem\\.(?!arraycopy)", "\\bThread\\b",
            "\\bObject\\b", "\\bMath\\.random", "\\bprotected\\b", "\\bdouble\\b", "\\bfloat\\b", "while \\(true\\)",
            "for \\(;;\\)", "\""};
        for (String word : banned) {
            check.holds("no " + word, !Pattern.compile(word).matcher(code).find());
        }
        Matcher imports = Pattern.compile("import ([^;]*);").matcher(code);
        while (imports.find()) {
            check.holds(imports.group(), List.of("java.util.Arrays", "java.util.ArrayList", "java.util.List")
                    .contains(imports.group(1)));
        }
        for (char c : source.toCharArray()) {
            check.holds("plain signs", c < 127);
        }
        Matcher methods = Pattern.compile("(?m)^( {4}| {8})[a-z][^\n;=]*\\) \\{\n(?s:.*?)\n\\1\\}").matcher(code);
        int found = 0;
        while (methods.find()) {
            found++;
            String body = methods.group();
            check.holds("short: " + body.split("\n")[0], body.split("\n").length <= 60);
        }
        check.holds("methods were found", found > 80);
    }
}
