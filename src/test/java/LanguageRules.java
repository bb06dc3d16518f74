import java.lang.reflect.Constructor;
import java.lang.reflect.Field;
import java.lang.reflect.Method;
import java.lang.reflect.Modifier;
import java.nio.file.Files;
import java.nio.file.Path;
import java.util.Arrays;
import java.util.List;
import java.util.TreeSet;
import java.util.regex.Matcher;
import java.util.regex.Pattern;

/** Those rules of ../shared/LANGUAGE.md that can be seen from the text and the members of the class. */
public final class LanguageRules {
    private static final Path SOURCE = Path.of("src/main/java/SettledInstants.java");
    private static final List<String> FACE = List.of(
        "write(int)", "erase()", "program(int)", "fault()", "instant(int,int)", "undo(int)", "restart(int)", "state(int)",
        "would(int,int,int)", "found(int,int,int,int)", "waits(int,int,int)", "ring(int,int)", "states(int,int,int)",
        "soon(int,int,int)", "part(int)", "node(int,int,int)", "count(int,int)");
    private static final List<String> LIBRARY = List.of("Integer", "Math", "System");
    private static final Check CHECK = new Check();

    public static void main(String[] args) throws Exception {
        face();
        for (Class<?> each : SettledInstants.class.getDeclaredClasses()) {
            nested(each);
        }
        String code = codeOnly(Files.readString(SOURCE));
        words(code);
        objects(code);
        lengths(code);
        CHECK.end("LanguageRules");
    }

    private static String signature(Method method) {
        StringBuilder made = new StringBuilder(method.getName()).append('(');
        for (Class<?> type : method.getParameterTypes()) {
            made.append(made.charAt(made.length() - 1) == '(' ? "" : ",").append(type.getName());
        }
        return made.append(')').toString();
    }

    private static void face() throws Exception {
        Class<?> type = SettledInstants.class;
        CHECK.holds("the class is public and final", type.getModifiers() == (Modifier.PUBLIC | Modifier.FINAL));
        TreeSet<String> open = new TreeSet<>();
        for (Method method : type.getDeclaredMethods()) {
            if (method.isSynthetic()) continue;
            limits(method);
            if (Modifier.isPrivate(method.getModifiers())) {
                CHECK.holds(method.getName() + " is no name of the face", isOwnName(method.getName()));
            } else {
                open.add(signature(method));
                CHECK.holds(method + " is public and returns an int",
                    method.getModifiers() == Modifier.PUBLIC && method.getReturnType() == int.class);
            }
        }
        CHECK.holds("the methods of the face", open.equals(new TreeSet<>(FACE)));
        Constructor<?>[] made = type.getDeclaredConstructors();
        CHECK.holds("one constructor", made.length == 1 && made[0].getModifiers() == Modifier.PUBLIC
            && made[0].getParameterCount() == 0);
        TreeSet<String> constants = new TreeSet<>();
        for (Field field : type.getDeclaredFields()) {
            limits(field);
            if (!Modifier.isPrivate(field.getModifiers())) constants.add(field.getName() + "=" + field.getInt(null));
        }
        CHECK.holds("the constants", constants.equals(new TreeSet<>(List.of(
            "NONE=-1", "UNKNOWN=-1000001", "OUTSIDE=-1000002", "NOT=-1000003", "FULL=-1000004"))));
        CHECK.holds("at most twelve classes", type.getDeclaredClasses().length < 12);
    }

    private static boolean isOwnName(String name) {
        return FACE.stream().noneMatch(method -> method.startsWith(name + "("));
    }

    private static void nested(Class<?> type) {
        CHECK.holds(type + " is static and private", Modifier.isStatic(type.getModifiers()) && Modifier.isPrivate(type.getModifiers()));
        for (Method method : type.getDeclaredMethods()) {
            limits(method);
            CHECK.holds(method + " has a name of its own", isOwnName(method.getName()));
        }
        long fields = Arrays.stream(type.getDeclaredFields()).filter(f -> !Modifier.isStatic(f.getModifiers())).count();
        CHECK.holds(type + " has at most twenty fields", fields <= 20);
        for (Field field : type.getDeclaredFields()) {
            limits(field);
        }
    }

    private static void limits(Method method) {
        CHECK.holds(method + " takes at most seven parameters", method.getParameterCount() <= 7);
    }

    private static void limits(Field field) {
        boolean isConstant = Modifier.isFinal(field.getModifiers()) && field.getType() == int.class;
        CHECK.holds(field + " is a constant if it is static", !Modifier.isStatic(field.getModifiers()) || isConstant);
    }

    /** Without comments, and with all signs in quotes replaced by one. */
    private static String codeOnly(String source) {
        return source.replaceAll("(?s)/\\*.*?\\*/", "").replaceAll("//[^\n]*", "").replaceAll("'[^']'", "'0'");
    }

    private static void words(String code) {
        for (String word : List.of("throw", "throws", "try", "catch", "finally", "synchronized", "assert", "import", "package",
                "volatile", "transient", "native", "super", "double", "float", "Object", "var", "yield")) {
            CHECK.holds("no " + word, !Pattern.compile("\\b" + word + "\\b").matcher(code).find());
        }
        for (String sign : List.of("->", "::", "\"", "%", "/", "[][]", "@")) {
            CHECK.holds("no " + sign, !code.contains(sign));
        }
        Matcher uses = Pattern.compile("\\b([A-Z][A-Za-z]*[a-z])\\.\\w+\\(").matcher(code);
        while (uses.find()) {
            boolean own = code.contains("class " + uses.group(1) + " ");
            CHECK.holds(uses.group() + " is allowed", own || LIBRARY.contains(uses.group(1)));
        }
        CHECK.holds("no function that throws", !code.contains("Exact("));
    }

    /** Constructors alone make objects, so that the calls of a run make none. */
    private static void objects(String code) {
        String method = "";
        for (String line : code.split("\n")) {
            Matcher begins = Pattern.compile("^ {4,8}(?:public |private |static |final )*([\\w\\[\\]]+(?: \\w+)?)\\(.*\\) \\{$").matcher(line);
            if (begins.find()) method = begins.group(1);
            if (line.matches(".*\\bnew .*")) CHECK.holds("only a constructor makes objects: " + line.trim(), !method.contains(" "));
        }
    }

    private static void lengths(String code) {
        int begun = 0;
        String[] lines = code.split("\n");
        for (int i = 0; i < lines.length; i++) {
            if (lines[i].matches(" {4,8}\\w.*\\) \\{")) begun = i;
            if (lines[i].matches(" {4,8}\\}")) CHECK.holds(lines[begun].trim() + " is short", i - begun <= 60);
            CHECK.holds("line " + i + " of the code is not too long", lines[i].length() <= 120);
        }
    }
}
