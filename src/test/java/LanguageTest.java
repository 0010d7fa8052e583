import java.io.DataInputStream;
import java.lang.reflect.Constructor;
import java.lang.reflect.Field;
import java.lang.reflect.Method;
import java.lang.reflect.Modifier;
import java.nio.file.Files;
import java.nio.file.Path;
import java.util.ArrayList;
import java.util.Arrays;
import java.util.List;
import java.util.Set;
import java.util.TreeSet;
import java.util.regex.Matcher;
import java.util.regex.Pattern;

/** The face of the document, and the rules of LANGUAGE.md that can be seen from outside. Run from the project's root. */
public final class LanguageTest {
    private static final Path DOCUMENT = Path.of("../shared/DOC.md");

    /** Of rule 4 what the class may call, and the exceptions of rule 6. */
    private static final Set<String> LIBRARY = Set.of("Object.<init>", "String.length", "String.charAt", "String.isEmpty",
            "String.equals", "String.indexOf", "String.substring", "String.toCharArray", "Math.max", "Math.min", "Math.abs",
            "Math.floorDiv", "Math.floorMod", "System.arraycopy", "Arrays.copyOf", "Arrays.copyOfRange", "Arrays.fill",
            "NoSuchElementException.<init>");

    public static void main(String[] args) throws Exception {
        face();
        inside();
        library();
        source();
        Check.end("LanguageTest");
    }

    private static void face() throws Exception {
        Set<String> methods = new TreeSet<>();
        Set<String> publicNames = new TreeSet<>();
        for (Method method : SmellCustoms.class.getDeclaredMethods()) {
            if (Modifier.isPublic(method.getModifiers())) {
                methods.add(written(method));
                publicNames.add(method.getName());
                Check.due(method + " is of the object", Modifier.isStatic(method.getModifiers()), false);
            } else {
                Check.due(method + " is private", Modifier.isPrivate(method.getModifiers()), true);
            }
        }
        Set<String> promised = promisedMethods();
        Check.due("promises of methods, beside that of the constructor", promised.size(), 45);
        Check.due("the face is " + methods + ", due is " + promised, methods.equals(promised), true);
        for (Class<?> type : classes()) {
            for (Method method : type.getDeclaredMethods()) {
                boolean open = Modifier.isPublic(method.getModifiers());
                Check.due(method + " bears no public name", open || !publicNames.contains(method.getName()), true);
            }
        }
        for (Field field : SmellCustoms.class.getDeclaredFields()) {
            boolean open = Modifier.isPublic(field.getModifiers());
            Check.due(field + " is NONE or private",
                    open ? field.getName().equals("NONE") : Modifier.isPrivate(field.getModifiers()), true);
        }
        Constructor<?>[] constructors = SmellCustoms.class.getDeclaredConstructors();
        Check.due("one constructor", constructors.length, 1);
        Check.due("that is public and takes nothing", Modifier.isPublic(constructors[0].getModifiers())
                && constructors[0].getParameterCount() == 0, true);
        Check.due("public, final", SmellCustoms.class.getModifiers(), Modifier.PUBLIC | Modifier.FINAL);
        Check.due("NONE", SmellCustoms.NONE, -1);
    }

    /** As the document writes it, without the names of what it takes: "int led(int) throws NoSuchElementException". */
    private static String written(Method method) {
        StringBuilder text = new StringBuilder(method.getReturnType() + " " + method.getName() + "(");
        for (Class<?> type : method.getParameterTypes()) {
            text.append(text.charAt(text.length() - 1) == '(' ? "" : ", ").append(type);
        }
        text.append(')');
        for (Class<?> type : method.getExceptionTypes()) {
            text.append(" throws ").append(type.getSimpleName());
        }
        return text.toString();
    }

    private static Set<String> promisedMethods() throws Exception {
        Set<String> methods = new TreeSet<>();
        Matcher matcher = Pattern.compile("(?m)^ {4}public (\\w+ \\w+\\(.*\\).*);$").matcher(Files.readString(DOCUMENT));
        while (matcher.find()) {
            methods.add(matcher.group(1).replaceAll("(int|boolean) \\w+(?=[,)])", "$1"));
        }
        return methods;
    }

    private static List<Class<?>> classes() {
        List<Class<?>> all = new ArrayList<>(Arrays.asList(SmellCustoms.class.getDeclaredClasses()));
        all.add(SmellCustoms.class);
        return all;
    }

    private static void inside() {
        Check.due("at most twelve classes", classes().size() <= 12, true);
        for (Class<?> type : classes()) {
            int fields = 0;
            for (Field field : type.getDeclaredFields()) {
                if (Modifier.isStatic(field.getModifiers())) {
                    Check.due(field + " is final", Modifier.isFinal(field.getModifiers()), true);
                } else {
                    fields++;
                }
            }
            Check.due(type + " has at most twenty fields", fields <= 20, true);
            for (Method method : type.getDeclaredMethods()) {
                Check.due(method + " has at most seven parameters", method.getParameterCount() <= 7, true);
            }
            if (type != SmellCustoms.class) {
                Check.due(type + " is private and static",
                        Modifier.isPrivate(type.getModifiers()) && Modifier.isStatic(type.getModifiers()), true);
            }
        }
    }

    // Rules 4 and 13: what the class files call outside the project.
    private static void library() throws Exception {
        for (Class<?> type : classes()) {
            for (String call : callsOutside(type)) {
                Check.due(type + " calls " + call, LIBRARY.contains(call), true);
            }
        }
    }

    /** The methods of a class file's constant pool (JVMS 4.4) that are of other classes than those of the project. */
    private static Set<String> callsOutside(Class<?> type) throws Exception {
        String file = type.getName() + ".class";
        try (DataInputStream in = new DataInputStream(SmellCustoms.class.getResourceAsStream(file))) {
            in.skipBytes(8);
            int count = in.readUnsignedShort();
            String[] texts = new String[count];
            int[][] pairs = new int[count][2];
            List<Integer> methods = new ArrayList<>();
            for (int i = 1; i < count; i++) {
                int tag = in.readUnsignedByte();
                if (tag == 1) {
                    texts[i] = in.readUTF();
                } else if (tag == 7 || tag == 8 || tag == 16) {
                    pairs[i][0] = in.readUnsignedShort();
                } else if (tag == 9 || tag == 10 || tag == 11 || tag == 12) {
                    pairs[i][0] = in.readUnsignedShort();
                    pairs[i][1] = in.readUnsignedShort();
                } else if (tag == 3 || tag == 4) {
                    in.readInt();
                } else if (tag == 5 || tag == 6) {
                    in.readLong();
                    i++;
                } else {
                    Check.due("an entry of lambdas or joined texts in " + file, tag, 0);
                    return Set.of();
                }
                if (tag == 10 || tag == 11) {
                    methods.add(i);
                }
            }
            Set<String> calls = new TreeSet<>();
            for (int method : methods) {
                String owner = texts[pairs[pairs[method][0]][0]];
                if (!owner.startsWith("SmellCustoms")) {
                    calls.add(owner.substring(owner.lastIndexOf('/') + 1) + "." + texts[pairs[pairs[method][1]][0]]);
                }
            }
            return calls;
        }
    }

    private static void source() throws Exception {
        String source = Files.readString(Path.of("src/main/java/SmellCustoms.java"));
        String code = source.replaceAll("(?s)/\\*.*?\\*/", "").replaceAll("//[^\n]*", "");
        String bare = code.replaceAll("\"[^\"]*\"", "\"\"");
        for (String word : List.of("->", "::", "\\bcatch\\b", "\\btry\\b", "\\bfinally\\b", "\\bassert\\b",
                "\\bsynchronized\\b", "\\bpackage\\b", "\"\" *\\+", "\\+ *\"\"", "\\bThread\\b", "\\bSystem\\.(?!arraycopy)",
                "Exact\\b", "\\bdouble\\b", "\\bfloat\\b", "\\bprotected\\b", "static *\\{", "\\bvar\\b")) {
            Check.due("no " + word, Pattern.compile(word).matcher(bare).find(), false);
        }
        Check.due("ASCII alone", source.chars().allMatch(sign -> sign < 128), true);
        Matcher imports = Pattern.compile("import ([^;]*);").matcher(code);
        while (imports.find()) {
            Check.due("import " + imports.group(1), imports.group(1).equals("java.util.NoSuchElementException"), true);
        }
        int began = 0;
        String[] lines = source.split("\n");
        for (int i = 0; i < lines.length; i++) {
            if (lines[i].matches(" {4}( {4})?[a-z].*\\) (throws \\w+ )?\\{")) {
                began = i;
            } else if (lines[i].matches(" {4}( {4})?\\}")) {
                Check.due("the method at line " + (began + 1) + " is short", began == 0 || i - began <= 60, true);
                began = 0;
            }
        }
    }
}
