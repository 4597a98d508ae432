import java.lang.reflect.Method;
import java.lang.reflect.Modifier;
import java.nio.file.Files;
import java.nio.file.Path;
import java.util.List;
import java.util.regex.Matcher;
import java.util.regex.Pattern;
import java.util.stream.Collectors;
import java.util.stream.Stream;

/** README.md: its example answers as it says, and it names every call and every test; it is run where README.md stands. */
public final class ReadmeTest {
    private static final Check CHECK = new Check();
    private static final Pattern FED = Pattern.compile("for \\(char sign : \"([^\"]*)\"\\.toCharArray\\(\\)\\) \\{");
    private static final Pattern CALL = Pattern.compile("x\\.(\\w+)\\(([^)]*)\\); +// (-?\\d+)\\b.*");

    public static void main(String[] args) throws Exception {
        String readme = Files.readString(Path.of("README.md"));
        example(readme);
        everyCall(readme);
        everyTest(readme);
        CHECK.end();
    }

    /** The first block of Java: each row x.call(..); // answer is called, and answers so. */
    private static void example(String readme) throws Exception {
        CHECK.part("the example");
        int from = readme.indexOf("```java\n");
        int to = readme.indexOf("\n```", from + 1);
        CHECK.due("there is one", from >= 0 && to > from ? 1 : 0, 1);
        UmbrellaDoors x = new UmbrellaDoors();
        List<String> rows = from < 0 || to < from ? List.of() : readme.substring(from, to).lines().skip(1).toList();
        int calls = 0;
        for (String row : rows) {
            Matcher fed = FED.matcher(row);
            Matcher call = CALL.matcher(row);
            if (fed.matches()) {
                Check.feed(x, fed.group(1));
            } else if (call.matches()) {
                calls++;
                CHECK.due(row, answer(x, call.group(1), call.group(2)), Long.parseLong(call.group(3)));
            } else {
                boolean around = row.equals("UmbrellaDoors x = new UmbrellaDoors();") || row.equals("}")
                    || row.startsWith("    x.feed(sign, 1);");
                CHECK.due("a row that the test can't read: " + row, around ? 0 : 1, 0);
            }
        }
        CHECK.due("rows that call, 30 or more", calls >= 30 ? 1 : 0, 1);
    }

    private static long answer(UmbrellaDoors x, String name, String told) throws Exception {
        String[] numbers = told.isEmpty() ? new String[0] : told.split(", ");
        for (Method method : UmbrellaDoors.class.getDeclaredMethods()) {
            if (method.getName().equals(name)) {
                Object[] args = new Object[numbers.length];
                for (int k = 0; k < args.length; k++) {
                    boolean isLong = method.getParameterTypes()[k] == long.class;
                    args[k] = isLong ? (Object) Long.decode(numbers[k].replace("L", "")) : Integer.decode(numbers[k]);
                }
                return ((Number) method.invoke(x, args)).longValue();
            }
        }
        throw new IllegalStateException("no call of the name " + name);
    }

    private static void everyCall(String readme) {
        CHECK.part("the calls");
        for (Method method : UmbrellaDoors.class.getDeclaredMethods()) {
            if (Modifier.isPublic(method.getModifiers())) {
                String head = "| `" + method.getName() + "(";
                CHECK.due("told: " + method.getName(), readme.contains(head) ? 1 : 0, 1);
            }
        }
    }

    private static void everyTest(String readme) throws Exception {
        CHECK.part("the tests");
        try (Stream<Path> files = Files.list(Path.of("src/test/java"))) {
            for (String file : files.map(p -> p.getFileName().toString()).collect(Collectors.toList())) {
                if (file.endsWith("Test.java")) {
                    String name = file.substring(0, file.length() - 5);
                    CHECK.due("told: " + name, readme.contains("`" + name + "`") ? 1 : 0, 1);
                }
            }
        }
    }
}
