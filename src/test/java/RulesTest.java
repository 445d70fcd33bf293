import java.lang.management.ManagementFactory;
import java.lang.reflect.Constructor;
import java.lang.reflect.Field;
import java.lang.reflect.Method;
import java.lang.reflect.Modifier;
import java.nio.file.Files;
import java.nio.file.Path;
import java.util.Set;
import java.util.TreeSet;
import java.util.regex.Matcher;
import java.util.regex.Pattern;

/** The public face, what can be seen of LANGUAGE.md's rules, and the room that a run takes. */
public final class RulesTest {
    private static final String[] FACE = {
        "int feed(int,int,int,int,int)", "int end(int)", "int tape(int)", "int read(int)", "int fault()",
        "int listing(int)", "int times(int,int,int)", "int by(int,int,int)", "int plus(int,int,int,int)",
        "int turn(int,int,int)", "int cyclotomic(int,int)", "int core(int,int)", "int search(int,int,int,int)",
        "int take(int,int)", "int undo()", "int image(int)", "int back(int)", "int coefficient(int,int)",
        "int of(int,int)", "long level(int,int,int)", "int low(int,int)", "int high(int,int)",
        "int enclosed(int,int)", "int often(int,int)", "long value(int,int)", "int roots(int,int)",
        "int compare(int,int,int)", "int surely(int,int,int)", "int least(int)", "int found(int,int)",
        "int smallest(int)", "int count(int)", "int status()"};
    private static final String[] FORBIDDEN = {
        "\\bthrow\\b", "\\btry\\b", "\\bcatch\\b", "\\bsynchronized\\b", "\\bassert\\b", "->", "::", "Exact\\b",
        "\\bstatic\\s*\\{", "\\binstanceof\\b", "\\bdouble\\b", "\\bfloat\\b", "\\bSystem\\.(?!arraycopy\\()",
        "^package", "^import (?!java\\.util\\.Arrays;)", "Arrays\\.(?!fill\\(|copyOf\\()",
        "Math\\.(?!abs\\(|min\\(|max\\()"};
    /** Far below 7.3 million fields and elements, even if each were a byte. */
    private static final long MOST_BYTES = 4_000_000;
    private static int checks = 0;
    private static int wrong = 0;

    public static void main(String[] args) throws Exception {
        face();
        classesInside();
        source();
        room();
        System.out.println(checks + " checks of rules, " + wrong + " wrong");
        if (wrong != 0) {
            System.exit(1);
        }
    }

    private static void due(String what, boolean holds) {
        checks++;
        if (!holds) {
            wrong++;
            System.out.println("rule broken: " + what);
        }
    }

    private static void face() throws Exception {
        due("public and final", MahlerBox.class.getModifiers() == (Modifier.PUBLIC | Modifier.FINAL));
        Constructor<?>[] constructors = MahlerBox.class.getDeclaredConstructors();
        due("one constructor", constructors.length == 1 && constructors[0].getParameterCount() == 0
                && Modifier.isPublic(constructors[0].getModifiers()));
        for (Field field : MahlerBox.class.getDeclaredFields()) {
            boolean none = field.getName().equals("NONE");
            due("field " + field.getName(), none ? Modifier.isPublic(field.getModifiers())
                    : Modifier.isPrivate(field.getModifiers()));
            due("static fields are final: " + field.getName(), !Modifier.isStatic(field.getModifiers())
                    || Modifier.isFinal(field.getModifiers()));
        }
        due("NONE", MahlerBox.class.getField("NONE").getInt(null) == -1);
        Set<String> told = new TreeSet<>();
        for (Method method : MahlerBox.class.getDeclaredMethods()) {
            if (Modifier.isPublic(method.getModifiers())) {
                String parameters = "";
                for (Class<?> type : method.getParameterTypes()) {
                    parameters += (parameters.isEmpty() ? "" : ",") + type.getName();
                }
                told.add(method.getReturnType().getName() + " " + method.getName() + "(" + parameters + ")");
            } else {
                due("private: " + method.getName(), Modifier.isPrivate(method.getModifiers()));
                due("not a public name: " + method.getName(), !isPublicName(method.getName()));
            }
        }
        due("the face: " + told, told.equals(new TreeSet<>(Set.of(FACE))));
    }

    private static boolean isPublicName(String name) {
        for (String line : FACE) {
            if (line.contains(" " + name + "(")) {
                return true;
            }
        }
        return false;
    }

    private static void classesInside() {
        Class<?>[] inside = MahlerBox.class.getDeclaredClasses();
        due("some twelve classes", inside.length <= 11);
        for (Class<?> one : inside) {
            int kind = Modifier.PRIVATE | Modifier.STATIC | Modifier.FINAL;
            due("private static final: " + one.getName(), one.getModifiers() == kind);
            due("some twenty fields: " + one.getName(), one.getDeclaredFields().length <= 20);
            for (Method method : one.getDeclaredMethods()) {
                due("not a public name: " + method.getName(), !isPublicName(method.getName()));
                due("seven parameters: " + method.getName(), method.getParameterCount() <= 7);
            }
        }
    }

    private static void source() throws Exception {
        String text = Files.readString(Path.of("src/main/java/MahlerBox.java"));
        String code = text.replaceAll("(?s)/\\*.*?\\*/", "").replaceAll("//[^\n]*", "");
        for (String pattern : FORBIDDEN) {
            Matcher matcher = Pattern.compile(pattern, Pattern.MULTILINE).matcher(code);
            due("nothing like " + pattern, !matcher.find());
        }
        due("signs 1 to 127", text.chars().allMatch(sign -> sign > 0 && sign < 128));
        Matcher method = Pattern.compile("(?m)^( {4}| {8})(?=\\S)[^;=\n]*\\) \\{\n(?:.*\n)*?\\1\\}").matcher(code);
        int methods = 0;
        while (method.find()) {
            methods++;
            long lines = method.group().lines().count();
            due("a method of " + lines + " lines: " + method.group().lines().findFirst().get(), lines <= 60);
        }
        due("methods were seen", methods > 100);
    }

    private static long allocated() {
        return ((com.sun.management.ThreadMXBean) ManagementFactory.getThreadMXBean())
                .getThreadAllocatedBytes(Thread.currentThread().getId());
    }

    /** Runs of the dearest calls. */
    private static void room() {
        allocated();
        for (int run = 0; run < 4; run++) {
            long before = allocated();
            MahlerBox box = new MahlerBox();
            box.search(10, 2, 6, 9999);
            for (int i = 0; i < 8; i++) {
                box.take(i, i);
            }
            long sum = 0;
            for (int call = 0; call < 500; call++) {
                switch (run) {
                    case 0: sum += box.search(10, 2, 6, 9999 - call); break;
                    case 1: sum += box.least(255); break;
                    case 2: sum += box.take(call % 30, call % 8); break;
                    default: sum += box.core(call % 8, 0) + box.enclosed(call % 8, 1) + box.compare(1, 2, 6);
                }
            }
            long bytes = allocated() - before;
            due("run " + run + " took " + bytes + " bytes, told " + sum, bytes < MOST_BYTES);
        }
    }
}
