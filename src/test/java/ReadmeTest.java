import java.io.IOException;
import java.lang.reflect.InvocationTargetException;
import java.lang.reflect.Method;
import java.lang.reflect.Modifier;
import java.nio.file.Files;
import java.nio.file.Path;
import java.util.ArrayList;
import java.util.Arrays;
import java.util.HashSet;
import java.util.List;
import java.util.Set;
import java.util.regex.Matcher;
import java.util.regex.Pattern;

/** The examples of README.md: each call answers what stands behind it, and no method and no test is left out. */
public final class ReadmeTest {
    private static final Path README = Path.of("README.md");
    private static final Path TESTS = Path.of("src", "test", "java");
    private static final String NEW = "FaceZones x = new FaceZones();";
    private static final Pattern LINE = Pattern.compile("((?:x\\.\\w+\\([^()]*\\); *)+)// ([^:]*)(?::.*)?");
    private static final Pattern CALL = Pattern.compile("x\\.(\\w+)\\(([^()]*)\\);");

    private final Check check = new Check("ReadmeTest");
    private final Set<String> called = new HashSet<>();
    private FaceZones x = null;

    private static List<String> examples(List<String> readme) {
        List<String> lines = new ArrayList<>();
        boolean isInside = false;
        for (String line : readme) {
            if (line.startsWith("```")) {
                isInside = line.equals("```java");
            } else if (isInside) {
                lines.add(line);
            }
        }
        return lines;
    }

    private static long number(String told) {
        if (told.startsWith("'")) {
            return told.charAt(1);
        }
        return Long.parseLong(told.endsWith("L") ? told.substring(0, told.length() - 1) : told);
    }

    private static Method named(String name) {
        for (Method m : FaceZones.class.getDeclaredMethods()) {
            if (m.getName().equals(name) && Modifier.isPublic(m.getModifiers())) {
                return m;
            }
        }
        throw new IllegalArgumentException("README.md calls " + name + ", which is no method");
    }

    private String answer(String name, String told) throws IllegalAccessException {
        Method method = named(name);
        Class<?>[] types = method.getParameterTypes();
        String[] numbers = told.isEmpty() ? new String[0] : told.split(", *");
        Object[] arguments = new Object[numbers.length];
        for (int n = 0; n < numbers.length; n++) {
            long number = number(numbers[n]);
            if (types[n] == int.class) {
                arguments[n] = Math.toIntExact(number);
            } else {
                arguments[n] = number;
            }
        }
        called.add(name);
        try {
            String got = String.valueOf(method.invoke(x, arguments));
            return got.equals("-99999") ? "NONE" : got;
        } catch (InvocationTargetException e) {
            return "throws " + e.getCause().getClass().getSimpleName();
        }
    }

    private void run(String line) throws IllegalAccessException {
        if (line.equals(NEW)) {
            x = new FaceZones();
            return;
        }
        Matcher parts = LINE.matcher(line);
        boolean isRead = parts.matches() && x != null;
        check.isTrue("the test can read \"" + line + "\"", isRead);
        if (!isRead) {
            return;
        }
        List<String> got = new ArrayList<>();
        Matcher call = CALL.matcher(parts.group(1));
        while (call.find()) {
            got.add(answer(call.group(1), call.group(2)));
        }
        List<String> told = Arrays.asList(parts.group(2).trim().split(", *"));
        check.isTrue("\"" + line + "\", but it answers " + got, got.equals(told));
    }

    private void noMethodIsLeftOut() {
        for (Method m : FaceZones.class.getDeclaredMethods()) {
            if (Modifier.isPublic(m.getModifiers())) {
                check.isTrue("README.md calls " + m.getName(), called.contains(m.getName()));
            }
        }
    }

    private void noTestIsLeftOut(String readme) throws IOException {
        try (var files = Files.newDirectoryStream(TESTS, "*Test.java")) {
            for (Path file : files) {
                String name = file.getFileName().toString().replace(".java", "");
                check.isTrue("README.md tells of " + name, readme.contains("`" + name + "`"));
            }
        }
    }

    public static void main(String[] args) throws Exception {
        ReadmeTest test = new ReadmeTest();
        List<String> readme = Files.readAllLines(README);
        for (String line : examples(readme)) {
            test.run(line);
        }
        test.noMethodIsLeftOut();
        test.noTestIsLeftOut(String.join("\n", readme));
        test.check.end();
    }
}
