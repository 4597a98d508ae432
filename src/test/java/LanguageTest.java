import java.lang.reflect.Constructor;
import java.lang.reflect.Field;
import java.lang.reflect.Method;
import java.lang.reflect.Modifier;
import java.nio.file.Files;
import java.nio.file.Path;
import java.util.Set;
import java.util.TreeSet;
import java.util.regex.Matcher;
import java.util.regex.Pattern;

/** The rules of LANGUAGE.md that can be seen from the text of the class; it is run where src stands. */
public final class LanguageTest {
    private static final Check CHECK = new Check();
    private static final String[] FORBIDDEN = {"throw", "throws", "try", "catch", "finally", "synchronized", "assert",
        "protected", "import", "package", "equals", "hashCode", "toString", "volatile", "transient", "native", "var",
        "yield", "Object", "Exception"};
    private static final Set<String> LIBRARY = Set.of("Math.min", "Math.max", "Math.abs", "Integer.bitCount",
        "System.arraycopy", "Long.MIN_VALUE");

    public static void main(String[] args) throws Exception {
        String source = Files.readString(Path.of("src/main/java/UmbrellaDoors.java"));
        String code = source.replaceAll("(?s)/\\*.*?\\*/", "").replaceAll("//[^\n]*", "")
            .replaceAll("\"[^\"\n]*\"", "\"\"").replaceAll("'.'", "' '");
        signs(source);
        words(code);
        library(code);
        classes(code);
        methods(code);
        face(code);
        members();
        CHECK.end();
    }

    private static int times(String code, String pattern) {
        int times = 0;
        Matcher m = Pattern.compile(pattern).matcher(code);
        while (m.find()) {
            times++;
        }
        return times;
    }

    private static void signs(String source) {
        CHECK.part("rules 3, 4");
        CHECK.due("signs above 126", source.chars().filter(c -> c > 126).count(), 0);
    }

    private static void words(String code) {
        CHECK.part("rules 1, 2, 6");
        for (String word : FORBIDDEN) {
            CHECK.due("how often: " + word, times(code, "\\b" + word + "\\b"), 0);
        }
        CHECK.due("lambdas", times(code, "->"), 0);
        CHECK.due("method references", times(code, "::"), 0);
        CHECK.due("static blocks", times(code, "static\\s*\\{"), 0);
        CHECK.due("while without an end", times(code, "while\\s*\\(true\\)|for\\s*\\(;;"), 0);
        CHECK.due("texts joined by +", times(code, "\"\"\\s*\\+|\\+\\s*\"\""), 0);
        CHECK.due("static fields that change", times(code, "static (?!final|class)[\\w\\[\\]]+ \\w+\\s*[=;]"), 0);
    }

    private static void library(String code) {
        CHECK.part("rule 4");
        Matcher m = Pattern.compile("\\b(Math|Integer|Long|System|Arrays|String|List|Byte|Character)\\.\\w+").matcher(code);
        while (m.find()) {
            CHECK.due("allowed: " + m.group(), LIBRARY.contains(m.group()) ? 1 : 0, 1);
        }
    }

    private static void classes(String code) {
        CHECK.part("rule 11");
        CHECK.due("no more than twelve classes", times(code, "\\b(class|enum|record|interface) \\w+") <= 12 ? 1 : 0, 1);
        CHECK.due("inner classes that are not static", times(code, "\n {4,}(private )?(final )?class "), 0);
    }

    /** By the layout of the file: a method's head ends with a brace, its end stands as far in as its head. */
    private static void methods(String code) {
        CHECK.part("rule 11");
        Matcher m = Pattern.compile("\n( +)((?:public |private |static |final )*(?:[\\w\\[\\]]+ )?(\\w+)\\(([^)]*)\\)) \\{\n")
            .matcher(code);
        int methods = 0;
        while (m.find()) {
            String name = m.group(3);
            if (name.equals("if") || name.equals("for") || name.equals("while") || name.equals("switch")) {
                continue;
            }
            methods++;
            int end = code.indexOf("\n" + m.group(1) + "}", m.end() - 1);
            int lines = times(code.substring(m.end(), end), "\n");
            CHECK.due("short: " + name + ", " + lines + " lines", lines <= 60 ? 1 : 0, 1);
            CHECK.due("parameters: " + name, m.group(4).split(",").length <= 7 ? 1 : 0, 1);
        }
        CHECK.due("methods seen", methods > 80 ? 1 : 0, 1);
    }

    private static void face(String code) {
        CHECK.part("rule 1");
        Set<String> seen = new TreeSet<>();
        Matcher m = Pattern.compile("public (?:static final )?(?:final )?(?:class |int |long )?(\\w+)").matcher(code);
        while (m.find()) {
            seen.add(m.group(1));
        }
        Set<String> want = new TreeSet<>(Set.of("UmbrellaDoors", "NONE", "NO"));
        for (String name : ("stand feed town told person step of go row hand mean least start rule gather penny cart needed"
            + " book vanish act trace as image undo count").split(" ")) {
            want.add(name);
            CHECK.due("one method of the name " + name, times(code, "(int|long|boolean|void|\\w+\\[\\]) " + name + "\\("), 1);
        }
        CHECK.due("public ones missing", want.stream().filter(n -> !seen.contains(n)).count(), 0);
        CHECK.due("public ones too many", seen.stream().filter(n -> !want.contains(n)).count(), 0);
    }

    private static final String METHODS = "int stand int,int; int feed long,int; int town ; int told int;"
        + " int person int,int,int; int step int,int; int of int,int; int go int; int row int; int hand int,int;"
        + " long mean int,int,int; int least int,int; int start int,int; int rule int,int; int gather int;"
        + " long penny int,int,int; int cart ; int needed ; int book int,int; int vanish int; int act int,int,int;"
        + " int trace int; int as int,int; int image ; int undo ; int count int";
    private static final String FIELDS = "int NONE; int BAD; int STATE; int FULL; long NO";

    /** What is not private is of the document's face, and as it says. */
    private static void members() {
        CHECK.part("rule 1");
        Set<String> want = new TreeSet<>();
        for (String method : METHODS.split("; *")) {
            want.add("public " + method.trim() + (method.trim().split(" ").length == 2 ? " " : ""));
        }
        for (String field : FIELDS.split("; *")) {
            want.add("public static final " + field);
        }
        want.add("public UmbrellaDoors");
        Set<String> seen = new TreeSet<>();
        for (Method m : UmbrellaDoors.class.getDeclaredMethods()) {
            if (!Modifier.isPrivate(m.getModifiers()) && !m.isSynthetic()) {
                seen.add(Modifier.toString(m.getModifiers()) + " " + m.getReturnType() + " " + m.getName() + " "
                    + parameters(m.getParameterTypes()));
            }
        }
        for (Field f : UmbrellaDoors.class.getDeclaredFields()) {
            if (!Modifier.isPrivate(f.getModifiers()) && !f.isSynthetic()) {
                seen.add(Modifier.toString(f.getModifiers()) + " " + f.getType() + " " + f.getName());
            }
        }
        for (Constructor<?> c : UmbrellaDoors.class.getDeclaredConstructors()) {
            seen.add(Modifier.toString(c.getModifiers()) + " " + c.getName() + parameters(c.getParameterTypes()));
        }
        for (String member : want) {
            CHECK.due("there is: " + member, seen.contains(member) ? 1 : 0, 1);
        }
        for (String member : seen) {
            CHECK.due("told: " + member, want.contains(member) ? 1 : 0, 1);
        }
        CHECK.due("twenty fields or fewer", fieldsOf(UmbrellaDoors.class) <= 20 ? 1 : 0, 1);
        CHECK.due("public and final", UmbrellaDoors.class.getModifiers(), Modifier.PUBLIC | Modifier.FINAL);
        for (Class<?> inside : UmbrellaDoors.class.getDeclaredClasses()) {
            CHECK.due("static: " + inside, Modifier.isStatic(inside.getModifiers()) ? 1 : 0, 1);
            CHECK.due("private: " + inside, Modifier.isPrivate(inside.getModifiers()) ? 1 : 0, 1);
            CHECK.due("twenty fields or fewer: " + inside, fieldsOf(inside) <= 20 ? 1 : 0, 1);
        }
    }

    private static int fieldsOf(Class<?> one) {
        int fields = 0;
        for (Field f : one.getDeclaredFields()) {
            fields += Modifier.isStatic(f.getModifiers()) ? 0 : 1;
        }
        return fields;
    }

    private static String parameters(Class<?>[] types) {
        StringBuilder text = new StringBuilder();
        for (Class<?> type : types) {
            text.append(text.length() == 0 ? "" : ",").append(type.getName());
        }
        return text.toString();
    }
}
