import java.io.IOException;
import java.lang.reflect.Field;
import java.lang.reflect.Method;
import java.lang.reflect.Modifier;
import java.nio.file.Files;
import java.nio.file.Path;
import java.util.ArrayList;
import java.util.Arrays;
import java.util.HashSet;
import java.util.List;
import java.util.Set;
import java.util.TreeSet;

/** The public face, and the rules of the language that can be seen simply. */
public final class LanguageTest {
    private static final Check check = new Check("LanguageTest");
    private static final String STATE = "IllegalStateException";
    private static final String ARGUMENT = "IllegalArgumentException";
    private static final String INDEX = "IndexOutOfBoundsException";
    private static final String[] FACE = {
        "int append(int) " + ARGUMENT + " " + STATE,
        "int clearText()",
        "int errorPosition()",
        "int load() " + STATE,
        "int about(int) " + ARGUMENT,
        "int face(int,int) " + INDEX + " " + ARGUMENT,
        "int zone(int,int) " + INDEX + " " + ARGUMENT,
        "int zoneOf(int,int) " + INDEX,
        "int inZone(int,int,int) " + ARGUMENT,
        "long cross(int,int,int) " + INDEX + " " + ARGUMENT,
        "int angle(int,int) " + INDEX,
        "boolean sameForm(int,int) " + INDEX,
        "int addFace(int,int,int,int) " + ARGUMENT + " " + STATE,
        "int addForm(int) " + INDEX + " " + STATE,
        "int twin(int) " + INDEX + " " + STATE,
        "int remove(int) " + INDEX,
        "int setSystem(int) " + ARGUMENT,
        "int setLeast(int) " + ARGUMENT,
        "int setTwin(int,int,int) " + ARGUMENT,
        "int undo() " + STATE,
        "int whyNot(int,int,int,int) " + ARGUMENT,
        "int bestTwin()",
        "int keyFace()",
        "int grown(int) " + ARGUMENT,
        "int runScript(int,long) " + ARGUMENT,
        "int simulate(long,int) " + ARGUMENT,
        "int save(int) " + INDEX,
        "int restore(int) " + INDEX + " " + STATE,
    };

    private static String told(Method m) {
        List<String> parameters = new ArrayList<>();
        for (Class<?> type : m.getParameterTypes()) {
            parameters.add(type.getName());
        }
        StringBuilder s = new StringBuilder(m.getReturnType().getName()).append(' ').append(m.getName());
        s.append('(').append(String.join(",", parameters)).append(')');
        for (Class<?> thrown : m.getExceptionTypes()) {
            s.append(' ').append(thrown.getSimpleName());
        }
        return s.toString();
    }

    private static void publicFace() throws ReflectiveOperationException {
        Class<?> c = FaceZones.class;
        Set<String> open = new TreeSet<>();
        for (Method m : c.getDeclaredMethods()) {
            if (!Modifier.isPrivate(m.getModifiers())) {
                open.add(told(m));
                check.isTrue(m + " is public and not static",
                    Modifier.isPublic(m.getModifiers()) && !Modifier.isStatic(m.getModifiers()));
            }
        }
        Set<String> due = new TreeSet<>(Arrays.asList(FACE));
        check.isTrue("the methods are those of the document, not " + open, open.equals(due));
        for (Field f : c.getDeclaredFields()) {
            check.isTrue(f + " is private or NONE", Modifier.isPrivate(f.getModifiers()) || f.getName().equals("NONE"));
        }
        Field none = c.getDeclaredField("NONE");
        check.isTrue("NONE is public, static and final",
            none.getModifiers() == (Modifier.PUBLIC | Modifier.STATIC | Modifier.FINAL));
        check.due("NONE", FaceZones.NONE, -99999);
        check.isTrue("the class is public and final", c.getModifiers() == (Modifier.PUBLIC | Modifier.FINAL));
        check.due("constructors", c.getDeclaredConstructors().length, 1);
        check.due("public constructors", c.getConstructors().length, 1);
    }

    private static void classesInside() {
        Set<String> names = new HashSet<>();
        for (String method : FACE) {
            names.add(method.substring(method.indexOf(' ') + 1, method.indexOf('(')));
        }
        List<Class<?>> all = new ArrayList<>(Arrays.asList(FaceZones.class.getDeclaredClasses()));
        for (Class<?> inside : all) {
            int m = inside.getModifiers();
            check.isTrue(inside + " is static and not open",
                Modifier.isStatic(m) && !Modifier.isPublic(m) && !Modifier.isProtected(m));
        }
        all.add(FaceZones.class);
        check.isTrue("at most twelve classes", all.size() <= 12);
        for (Class<?> c : all) {
            int fields = 0;
            for (Field f : c.getDeclaredFields()) {
                fields += Modifier.isStatic(f.getModifiers()) ? 0 : 1;
                check.isTrue(f + " is no changing static", !Modifier.isStatic(f.getModifiers())
                    || Modifier.isFinal(f.getModifiers()) && f.getType().isPrimitive());
            }
            check.isTrue(c + " has at most twenty fields", fields <= 20);
            for (Method m : c.getDeclaredMethods()) {
                check.isTrue(m + " has at most seven parameters", m.getParameterCount() <= 7);
                check.isTrue(m + " bears no public name", Modifier.isPublic(m.getModifiers())
                    || !names.contains(m.getName()));
            }
        }
    }

    private static void source(Path file) throws IOException {
        List<String> lines = Files.readAllLines(file);
        String all = String.join("\n", lines);
        String[] forbidden = {"import ", "package ", "->", "::", "catch", "finally", "synchronized", "assert",
            "instanceof", "Exact(", "System.out", "System.nano", "System.current", "Random", "Thread"};
        for (String word : forbidden) {
            check.isTrue("the source has no " + word, !all.contains(word));
        }
        check.isTrue("the source has characters up to 126 alone", all.chars().allMatch(ch -> ch <= 126));
        int start = -1;
        for (int n = 0; n < lines.size(); n++) {
            String line = lines.get(n);
            boolean isMethod = line.matches("(    |        )[A-Za-z].*\\) (throws .*)?\\{");
            if (isMethod && !line.contains(" if ") && !line.contains(" for ")) {
                start = n;
            }
            if (start >= 0 && line.matches("(    |        )\\}")
                && line.indexOf('}') == lines.get(start).length() - lines.get(start).stripLeading().length()) {
                check.isTrue("the method in line " + (start + 1) + " is short", n - start <= 60);
                start = -1;
            }
            int made = line.indexOf("new ");
            boolean isField = line.matches("(    |        )(private )?(final )?.* = new .*;");
            boolean inConstructor = line.matches(" +(saved|states|direction|axis|small|firstZone)\\[.*\\] = new .*");
            check.isTrue("line " + (n + 1) + " makes nothing while a call runs",
                made < 0 || line.contains("throw new ") || line.contains("*") || isField || inConstructor);
        }
    }

    public static void main(String[] args) throws Exception {
        publicFace();
        classesInside();
        source(Path.of(args.length > 0 ? args[0] : "src/main/java/FaceZones.java"));
        check.end();
    }
}
