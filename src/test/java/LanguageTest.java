import java.io.IOException;
import java.lang.reflect.Constructor;
import java.lang.reflect.Field;
import java.lang.reflect.Method;
import java.lang.reflect.Modifier;
import java.nio.file.Files;
import java.nio.file.Path;
import java.util.HashSet;
import java.util.List;
import java.util.Set;
import java.util.TreeSet;
import java.util.regex.Matcher;
import java.util.regex.Pattern;

/** The document's public face, and the rules of LANGUAGE.md that can be seen in the source. Run in the project's folder. */
public final class LanguageTest {
    private static final Telling T = new Telling();
    private static final List<String> FORBIDDEN = List.of("\\bthrow\\b", "\\btry\\b", "\\bcatch\\b", "\\bfinally\\b",
            "\\bsynchronized\\b", "\\bassert\\b", "->", "::", "Exact\\(", "\\bprotected\\b", "\\bpackage\\b", "\\bSystem\\.(?!arraycopy)",
            "\\bequals\\b", "\\bhashCode\\b", "\\btoString\\b", "\\bdouble\\b", "\\bfloat\\b", "\\bRandom\\b", "\\bThread\\b",
            "Math\\.random", "\\[\\]\\[\\]\\[\\]", "\\bwhile \\(true\\)", "for \\(;;\\)", "static \\{");

    private LanguageTest() {
    }

    public static void main(String[] args) throws IOException {
        String source = Files.readString(Path.of("src/main/java/FathomNight.java"));
        String code = source.replaceAll("(?s)/\\*.*?\\*/", "").replaceAll("//[^\n]*", "").replaceAll("\"[^\"\n]*\"", "\"\"");
        for (String sign : FORBIDDEN) {
            T.due("no " + sign, Pattern.compile(sign).matcher(code).find(), false);
        }
        Matcher imports = Pattern.compile("import ([^;]+);").matcher(code);
        while (imports.find()) {
            T.due("import " + imports.group(1), Set.of("java.util.Arrays", "java.util.ArrayList", "java.util.List")
                    .contains(imports.group(1)), true);
        }
        face(Files.readString(Path.of("../shared/DOC.md")));
        classesInside();
        statics(code);
        methods(code);
        T.due("classes", count(code, "\\bclass \\w+") <= 12, true);
        T.due("one public class", count(code, "public (final )?class"), 1);
        T.due("signs 10 and 32 to 126 alone", source.matches("[\\n -~]*"), true);
        T.close("LanguageTest");
    }

    private static int count(String code, String sign) {
        int many = 0;
        Matcher m = Pattern.compile(sign).matcher(code);
        while (m.find()) {
            many++;
        }
        return many;
    }

    /** "The public face": all that the document names, and nothing else that is not private. */
    private static void face(String document) {
        Set<String> due = new TreeSet<>();
        Matcher m = Pattern.compile("(?m)^    public (static final int \\w+|[\\w ]*\\w+\\(.*\\))(?: = -?\\d+)?;$").matcher(document);
        while (m.find()) {
            due.add(m.group(1).replaceAll("(int|boolean|long) \\w+(?=[,)])", "$1").replace(" ", ""));
        }
        Set<String> has = new TreeSet<>();
        for (Field f : FathomNight.class.getDeclaredFields()) {
            if (!Modifier.isPrivate(f.getModifiers())) {
                has.add(nonPublic(f.getModifiers()) + f.getType() + f.getName());
            }
        }
        for (Constructor<?> c : FathomNight.class.getDeclaredConstructors()) {
            has.add(c.getName() + types(c.getParameterTypes()));
            T.due("the constructor is public", Modifier.isPublic(c.getModifiers()), true);
        }
        for (Method method : FathomNight.class.getDeclaredMethods()) {
            if (!Modifier.isPrivate(method.getModifiers())) {
                has.add(nonPublic(method.getModifiers()) + method.getReturnType() + method.getName()
                        + types(method.getParameterTypes()));
            }
        }
        System.out.println("the document's face has " + due.size() + " members");
        T.due("the face is the document's: " + has, has.equals(due), true);
        T.due("the class is public and final", Modifier.toString(FathomNight.class.getModifiers()).equals("public final"), true);
    }

    /** Modifiers but public, as the document writes them. */
    private static String nonPublic(int modifiers) {
        T.due("public", Modifier.isPublic(modifiers), true);
        return Modifier.toString(modifiers & ~Modifier.PUBLIC).replace(" ", "");
    }

    private static String types(Class<?>[] types) {
        StringBuilder t = new StringBuilder("(");
        for (Class<?> type : types) {
            t.append(t.length() > 1 ? "," : "").append(type.getName());
        }
        return t.append(')').toString();
    }

    /** Rules 1, 2, 11: classes inside are static and not public, with some twenty fields at most. */
    private static void classesInside() {
        for (Class<?> inside : FathomNight.class.getDeclaredClasses()) {
            int modifiers = inside.getModifiers();
            T.due(inside + " is static", Modifier.isStatic(modifiers), true);
            T.due(inside + " is not public", Modifier.isPublic(modifiers) || Modifier.isProtected(modifiers), false);
            int fields = 0;
            for (Field f : inside.getDeclaredFields()) {
                fields += Modifier.isStatic(f.getModifiers()) ? 0 : 1;
            }
            T.due("fields of " + inside, fields <= 20, true);
        }
    }

    private static void statics(String code) {
        Matcher m = Pattern.compile("(?m)^\\s*(?:public |private )?static (final )?([\\w\\[\\]]+) (\\w+) ?=").matcher(code);
        while (m.find()) {
            T.due("static " + m.group(3) + " is final", m.group(1) != null, true);
            T.due("type of static " + m.group(3), Set.of("int", "long", "boolean", "char", "String", "int[]", "long[]",
                    "char[]", "byte[]").contains(m.group(2)), true);
        }
    }

    /** Methods stand in classes at 4 blanks, in classes inside at 8. */
    private static void methods(String code) {
        String[] lines = code.split("\n");
        Set<String> face = new HashSet<>();
        Pattern head = Pattern.compile("^( {4}| {8})(?:(public|private) )?(?:static )?(?:[\\w\\[\\]]+ )?(\\w+)\\((.*)\\) \\{$");
        for (int pass = 0; pass < 2; pass++) {
            for (int i = 0; i < lines.length; i++) {
                Matcher m = head.matcher(lines[i]);
                if (m.matches()) {
                    if (pass == 0 && "public".equals(m.group(2))) {
                        face.add(m.group(3));
                    } else if (pass == 1) {
                        method(lines, i, m, face);
                    }
                }
            }
        }
        T.due("the face's names, with the constructor", face.size(), 35);
    }

    private static void method(String[] lines, int at, Matcher head, Set<String> face) {
        int end = at;
        while (!lines[end].equals(head.group(1) + "}")) {
            end++;
        }
        T.due("lines of " + head.group(3), end - at <= 60, true);
        T.due("parameters of " + head.group(3), head.group(4).split(",").length <= 7, true);
        if (!"public".equals(head.group(2))) {
            T.due(head.group(3) + " is no name of the face", face.contains(head.group(3)), false);
        }
    }
}
