import java.io.IOException;
import java.lang.reflect.Constructor;
import java.lang.reflect.Field;
import java.lang.reflect.Method;
import java.lang.reflect.Modifier;
import java.nio.file.Files;
import java.nio.file.Path;
import java.util.Arrays;
import java.util.List;
import java.util.Set;
import java.util.TreeSet;
import java.util.regex.Matcher;
import java.util.regex.Pattern;

/** The face is the document's, and the source keeps to what of LANGUAGE.md can be seen by looking for words. */
public final class LanguageTest {
    private static final String DOCUMENT = "../shared/DOC.md";
    private static final String SOURCE = "src/main/java/FootOut.java";

    public static void main(String[] args) throws IOException {
        String source = Files.readString(Path.of(SOURCE));
        face();
        names();
        words(source);
        calls(source);
        room();
        Check.end();
    }

    /** Rule 1, by the document's own lines. */
    private static void face() throws IOException {
        Set<String> told = new TreeSet<>();
        Matcher m = Pattern.compile("^    public (int|long) (\\w+)\\((.*)\\);$", Pattern.MULTILINE).matcher(Files.readString(Path.of(DOCUMENT)));
        while (m.find()) {
            told.add(m.group(1) + " " + m.group(2) + "(" + m.group(3).replaceAll("(\\w+) \\w+", "$1") + ")");
        }
        Check.due("methods told", told.size(), 48);
        Set<String> there = new TreeSet<>();
        for (Method method : FootOut.class.getDeclaredMethods()) {
            if (!Modifier.isPrivate(method.getModifiers())) {
                StringBuilder types = new StringBuilder();
                for (Class<?> type : method.getParameterTypes()) {
                    types.append(types.length() == 0 ? "" : ", ").append(type.getName());
                }
                there.add(method.getReturnType().getName() + " " + method.getName() + "(" + types + ")");
            }
        }
        Check.isTrue("the face: " + told + " is " + there, told.equals(there));
        Check.isTrue("public and final", FootOut.class.getModifiers() == (Modifier.PUBLIC | Modifier.FINAL));
        Constructor<?>[] made = FootOut.class.getDeclaredConstructors();
        Check.isTrue("one constructor", made.length == 1 && Modifier.isPublic(made[0].getModifiers()) && made[0].getParameterCount() == 0);
        for (Field field : FootOut.class.getDeclaredFields()) {
            Check.isTrue("field " + field.getName(), Modifier.isPrivate(field.getModifiers()) || field.getName().equals("NONE"));
        }
    }

    private static void names() {
        Set<String> open = new TreeSet<>();
        for (Method method : FootOut.class.getDeclaredMethods()) {
            if (Modifier.isPublic(method.getModifiers())) {
                open.add(method.getName());
            }
        }
        int classes = 1;
        for (Class<?> inside : FootOut.class.getDeclaredClasses()) {
            classes++;
            Check.isTrue("static " + inside, Modifier.isStatic(inside.getModifiers()));
            fieldsOf(inside);
            for (Method method : inside.getDeclaredMethods()) {
                Check.isTrue("name " + method, !open.contains(method.getName()));
                Check.isTrue("parameters " + method, method.getParameterCount() <= 7);
            }
        }
        fieldsOf(FootOut.class);
        Check.isTrue("twelve classes", classes <= 12);
    }

    private static void fieldsOf(Class<?> type) {
        long fields = Arrays.stream(type.getDeclaredFields()).filter(f -> !Modifier.isStatic(f.getModifiers())).count();
        Check.isTrue("twenty fields: " + type, fields <= 20);
        for (Field field : type.getDeclaredFields()) {
            Check.isTrue("static and not final: " + field, !Modifier.isStatic(field.getModifiers()) || Modifier.isFinal(field.getModifiers()));
        }
    }

    /** Rules 2, 4, 6, 10. */
    private static void words(String source) {
        String code = source.replaceAll("(?s)/\\*.*?\\*/", "").replaceAll("//[^\\n]*", "").replaceAll("\"[^\"\\n]*\"", "\"\"");
        for (String word : List.of("throw", "throws", "try", "catch", "finally", "synchronized", "assert", "package", "protected",
                "volatile", "native", "instanceof", "double", "float", "enum", "record", "Object", "Random", "Thread", "Exact")) {
            Check.isTrue("no " + word, !Pattern.compile("\\b" + word + "\\b").matcher(code).find());
        }
        for (String sign : List.of("->", "::", "@", "\"\" +", "+ \"\"")) {
            Check.isTrue("no " + sign, !code.contains(sign));
        }
        Matcher imports = Pattern.compile("import ([^;]+);").matcher(code);
        while (imports.find()) {
            Check.isTrue("import " + imports.group(1), imports.group(1).equals("java.util.Arrays"));
        }
        Matcher library = Pattern.compile("\\b(Arrays|Math|Integer|Long|System|String)\\.(\\w+)").matcher(code);
        Set<String> allowed = Set.of("Arrays.fill", "Math.max", "Math.min", "Math.abs", "Integer.bitCount", "System.arraycopy");
        while (library.find()) {
            Check.isTrue("library " + library.group(), allowed.contains(library.group()));
        }
    }

    /** Rule 11: methods stay short. */
    private static void calls(String source) {
        int begun = -1;
        String[] lines = source.split("\n");
        for (int i = 0; i < lines.length; i++) {
            if (lines[i].matches("(    |        )(public|private|static|boolean|int|long|void|Road|[A-Z]\\w+)\\b.*\\) \\{")) {
                begun = i;
            }
            if (lines[i].matches("(    |        )\\}") && begun >= 0) {
                Check.isTrue("long method at line " + (begun + 1), i - begun <= 60);
                begun = -1;
            }
            Check.isTrue("plain signs in line " + (i + 1), lines[i].chars().allMatch(c -> c >= 32 && c < 127));
        }
    }

    /** One room: once made, an object makes no other one, whatever is called. */
    private static void room() {
        com.sun.management.ThreadMXBean bean = (com.sun.management.ThreadMXBean) java.lang.management.ManagementFactory.getThreadMXBean();
        long id = Thread.currentThread().getId();
        long sum = 0;
        for (int round = 0; round < 3; round++) {
            FootOut x = Check.with("lanes 2;car 0 at 20 pace 3 kind 1;car 1 at 30 pace 5 kind 2;", "stop 50 if near 20 or ahead;");
            long before = bean.getThreadAllocatedBytes(id);
            sum += dearCalls(x);
            long made = bean.getThreadAllocatedBytes(id) - before;
            Check.isTrue("made " + made + " bytes", round == 0 || made < 2000);
        }
        Check.isTrue("answers", sum != 0);
    }

    private static long dearCalls(FootOut x) {
        long sum = 0;
        for (int i = 0; i < 20; i++) {
            sum += x.best(3) + x.wise(0) + x.wise(1) + x.back(0) + x.odds(0) + x.helps(1) + x.absent(0) + x.repeals(0);
            sum += x.tries(i, 60, 4) + x.watch(i, 99, 0, 0) + x.margin(i) + x.mean(0) + x.blame(0, 0);
            sum += x.place(true, 9, 9, i % 9, 9) + x.measure(1, 2, i) + x.spent(999, -1) + x.worst(0, 3) + x.lamp(i, 3, 0);
            sum += x.numbers(0, 0, 40) + x.filled(0, 0) + x.slip(0, 0) + x.clumps(0, 9, 5, 1) + x.image(0) + x.restore(0);
            sum += x.feed(i, i, i, i, i) + x.text(1, 20) + x.rests(4, 4, 0) + x.until(999, 0, 1, 0);
        }
        return sum;
    }
}
