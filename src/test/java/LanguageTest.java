import java.lang.reflect.Constructor;
import java.lang.reflect.Field;
import java.lang.reflect.Method;
import java.lang.reflect.Modifier;
import java.nio.file.Files;
import java.nio.file.Path;
import java.util.Arrays;
import java.util.List;
import java.util.Set;
import java.util.TreeSet;
import java.util.regex.Matcher;
import java.util.regex.Pattern;

/** The face of the document, and the rules of LANGUAGE.md that can be seen from outside. Run from the project's root. */
public final class LanguageTest {
    private static final List<String> FACE = List.of("feed iiiii int", "border i int", "fault  int", "where  int",
            "smell ii int", "place ii int", "traveller ii int", "path ii int", "strength iii int", "covered iii int",
            "smelt iii int", "duty iii int", "claim ii int", "gone ii int", "mustWait ii int", "walked i int",
            "walkedAt ii int", "judge  int", "wrongly  int", "quickest ii int", "cheapest ii int", "secret ii int",
            "wayAt iiii int", "rounds  int", "cover iii int", "been  int", "could  int", "surely  int", "beenAt i int",
            "posts  int", "postOf i int", "rests ii int", "rest ii int", "winds iii int", "windDuty iiii int",
            "waits ii int", "go ii int", "spray iii boolean", "wash i boolean", "undo  boolean", "mark  int",
            "back i boolean", "led i int", "size i int", "trouble  int");

    public static void main(String[] args) throws Exception {
        face();
        inside();
        source();
        Check.end("LanguageTest");
    }

    private static void face() {
        Set<String> methods = new TreeSet<>();
        Set<String> publicNames = new TreeSet<>();
        for (Method method : SmellCustoms.class.getDeclaredMethods()) {
            if (Modifier.isPublic(method.getModifiers())) {
                methods.add(method.getName() + " " + "i".repeat(method.getParameterCount()) + " " + method.getReturnType());
                publicNames.add(method.getName());
            } else {
                Check.due(method + " is private", Modifier.isPrivate(method.getModifiers()), true);
            }
        }
        Check.due("the face is that of the document " + methods, methods.equals(new TreeSet<>(FACE)), true);
        for (Class<?> type : classes()) {
            for (Method method : type.getDeclaredMethods()) {
                boolean open = Modifier.isPublic(method.getModifiers());
                Check.due(method + " bears no public name", open || !publicNames.contains(method.getName()), true);
            }
        }
        for (Field field : SmellCustoms.class.getDeclaredFields()) {
            boolean open = Modifier.isPublic(field.getModifiers());
            Check.due(field + " is NONE or private",
                    open ? field.getName().equals("NONE") : Modifier.isPrivate(field.getModifiers()), true);
        }
        Constructor<?>[] constructors = SmellCustoms.class.getDeclaredConstructors();
        Check.due("one constructor", constructors.length, 1);
        Check.due("public, final", SmellCustoms.class.getModifiers(), Modifier.PUBLIC | Modifier.FINAL);
        Check.due("NONE", SmellCustoms.NONE, -1);
    }

    private static List<Class<?>> classes() {
        List<Class<?>> all = new java.util.ArrayList<>(Arrays.asList(SmellCustoms.class.getDeclaredClasses()));
        all.add(SmellCustoms.class);
        return all;
    }

    private static void inside() {
        Check.due("at most twelve classes", classes().size() <= 12, true);
        for (Class<?> type : classes()) {
            int fields = 0;
            for (Field field : type.getDeclaredFields()) {
                if (Modifier.isStatic(field.getModifiers())) {
                    Check.due(field + " is final", Modifier.isFinal(field.getModifiers()), true);
                } else {
                    fields++;
                }
            }
            Check.due(type + " has at most twenty fields", fields <= 20, true);
            for (Method method : type.getDeclaredMethods()) {
                Check.due(method + " has at most seven parameters", method.getParameterCount() <= 7, true);
            }
            if (type != SmellCustoms.class) {
                Check.due(type + " is private and static",
                        Modifier.isPrivate(type.getModifiers()) && Modifier.isStatic(type.getModifiers()), true);
            }
        }
    }

    private static void source() throws Exception {
        String source = Files.readString(Path.of("src/main/java/SmellCustoms.java"));
        String code = source.replaceAll("(?s)/\\*.*?\\*/", "").replaceAll("//[^\n]*", "");
        String bare = code.replaceAll("\"[^\"]*\"", "\"\"");
        for (String word : List.of("->", "::", "\\bcatch\\b", "\\btry\\b", "\\bfinally\\b", "\\bassert\\b",
                "\\bsynchronized\\b", "\\bpackage\\b", "\"\" *\\+", "\\+ *\"\"", "\\bThread\\b", "\\bSystem\\.(?!arraycopy)",
                "Exact\\b", "\\bdouble\\b", "\\bfloat\\b", "\\bprotected\\b", "static *\\{", "\\bvar\\b")) {
            Check.due("no " + word, Pattern.compile(word).matcher(bare).find(), false);
        }
        Check.due("ASCII alone", source.chars().allMatch(sign -> sign < 128), true);
        Matcher imports = Pattern.compile("import ([^;]*);").matcher(code);
        while (imports.find()) {
            Check.due("import " + imports.group(1), imports.group(1).equals("java.util.NoSuchElementException"), true);
        }
        int began = 0;
        String[] lines = source.split("\n");
        for (int i = 0; i < lines.length; i++) {
            if (lines[i].matches(" {4}( {4})?[a-z].*\\) (throws \\w+ )?\\{")) {
                began = i;
            } else if (lines[i].matches(" {4}( {4})?\\}")) {
                Check.due("the method at line " + (began + 1) + " is short", began == 0 || i - began <= 60, true);
                began = 0;
            }
        }
    }
}
