import java.lang.management.ManagementFactory;
import java.lang.reflect.Constructor;
import java.lang.reflect.Field;
import java.lang.reflect.Method;
import java.lang.reflect.Modifier;
import java.nio.file.Files;
import java.nio.file.Path;
import java.util.Arrays;
import java.util.Set;
import java.util.TreeSet;
import java.util.regex.Matcher;
import java.util.regex.Pattern;

/** The class has the document's face and no other, keeps to the rules that can be seen, and calls make no objects. */
public final class FaceTest {
    private static final String[] FACE = {
        "int write(int,long)", "int wipe()", "int fault()", "int lay()", "int path(int,int)", "int posts(int,int)",
        "int bears(int,int)", "int most(int,int)", "int row(int,int)", "int judge(int)", "int best(int,int)",
        "int fewest(int)", "int more()", "int oneMore(int,int)", "int weighed(int,int,int)", "int way(int,int)",
        "int through(int,int)", "long gain(int,int)", "int bestWay(int,int)", "int leastPay()", "int guard(int,int)",
        "int carrier(int,int)", "long value(int)", "long chance(int,int,int)", "int tenths(int,int)", "int told()",
        "int nights(int,int)", "int keep()", "int back()", "int count(int)"};
    private static int wrong = 0;

    private static void check(boolean holds, String what) {
        if (!holds) {
            wrong++;
            System.out.println("not so: " + what);
        }
    }

    private static String signature(Method method) {
        StringBuilder text = new StringBuilder();
        text.append(method.getReturnType()).append(" ").append(method.getName()).append("(");
        for (int i = 0; i < method.getParameterCount(); i++) {
            text.append(i == 0 ? "" : ",").append(method.getParameterTypes()[i]);
        }
        return text.append(")").toString();
    }

    private static void face() {
        Class<?> c = BorderGuards.class;
        check(Modifier.isPublic(c.getModifiers()) && Modifier.isFinal(c.getModifiers()), "public and final");
        Set<String> found = new TreeSet<>();
        Set<String> names = new TreeSet<>();
        for (Method method : c.getDeclaredMethods()) {
            if (Modifier.isPublic(method.getModifiers())) {
                found.add(signature(method));
                names.add(method.getName());
                check(!Modifier.isStatic(method.getModifiers()), method + " is not static");
            } else {
                check(Modifier.isPrivate(method.getModifiers()), method + " is private");
            }
        }
        check(found.equals(new TreeSet<>(Arrays.asList(FACE))), "the methods are those of the face: " + found);
        for (Method method : c.getDeclaredMethods()) {
            check(Modifier.isPublic(method.getModifiers()) || !names.contains(method.getName()),
                    method + " has a name of its own");
        }
        Constructor<?>[] made = c.getDeclaredConstructors();
        check(made.length == 1 && Modifier.isPublic(made[0].getModifiers()) && made[0].getParameterCount() == 0,
                "one constructor");
        Set<String> constants = new TreeSet<>();
        for (Field field : c.getDeclaredFields()) {
            if (Modifier.isPublic(field.getModifiers())) {
                constants.add(field.getName());
            } else {
                check(Modifier.isPrivate(field.getModifiers()), field + " is private");
            }
        }
        check(constants.toString().equals("[BAD, FULL, NO, NONE]"), "the constants: " + constants);
        inside(c, names);
    }

    private static void inside(Class<?> c, Set<String> names) {
        Class<?>[] classes = c.getDeclaredClasses();
        check(classes.length <= 12, "twelve classes at most");
        for (Class<?> in : classes) {
            check(Modifier.isStatic(in.getModifiers()) && !Modifier.isPublic(in.getModifiers()), in + " is static");
            for (Method method : in.getDeclaredMethods()) {
                check(!names.contains(method.getName()), method + " has a name of its own");
                check(method.getParameterCount() <= 7, method + " has seven parameters at most");
            }
            int fields = 0;
            for (Field field : in.getDeclaredFields()) {
                boolean isStatic = Modifier.isStatic(field.getModifiers());
                check(!isStatic || Modifier.isFinal(field.getModifiers()), field + " is no static state");
                fields += isStatic ? 0 : 1;
            }
            check(fields <= 20, in + " has twenty fields at most");
        }
    }

    private static void rules() throws Exception {
        String source = Files.readString(Path.of("src/main/java/BorderGuards.java"));
        String code = Pattern.compile("/\\*.*?\\*/|//[^\n]*", Pattern.DOTALL).matcher(source).replaceAll("");
        for (String word : new String[] {"throw", "throws", "try", "catch", "finally", "synchronized", "assert", "package",
            "System\\.(?!arraycopy)\\w+", "->", "::", "\\w+Exact", "Random", "Thread", "double", "float"}) {
            String whole = word.matches("\\W+") ? word : "\\b" + word + "\\b";
            check(!Pattern.compile(whole).matcher(code).find(), "no " + word);
        }
        check(code.replaceAll("import java\\.util\\.Arrays;", "").indexOf("import") < 0, "no import but Arrays");
        library(code);
        Matcher constructor = Pattern.compile("public BorderGuards\\(\\) \\{(.*?)\n    }", Pattern.DOTALL).matcher(code);
        check(constructor.find() && !Pattern.compile("(?!for)\\b[a-z]\\w*\\s*\\(").matcher(constructor.group(1)).find(),
                "the constructor makes objects and hands nothing out: it calls no method");
        int length = 0;
        for (String line : source.split("\n")) {
            boolean begins = line.matches("    (    )?(private |public |static |final )*[\\w\\[\\]]+ \\w+\\(.*\\{");
            length = begins ? 0 : length + 1;
            check(!line.matches("    (    )?}") || length <= 60, "short methods: " + length + " lines");
            length = line.matches("    (    )?}") ? 0 : length;
        }
    }

    /** What the class takes from the library stands in LANGUAGE.md by its name; its constants do not. */
    private static void library(String code) {
        Set<String> listed = Set.of("Arrays.fill", "Integer.bitCount", "Integer.numberOfTrailingZeros", "Math.max",
                "Math.min", "System.arraycopy");
        Matcher used = Pattern.compile("\\b(Arrays|Integer|Long|Math|System|String|Character|Boolean)\\s*\\.\\s*\\w+")
                .matcher(code.replaceAll("import [^;]*;", ""));
        while (used.find()) {
            check(listed.contains(used.group().replaceAll("\\s", "")), used.group() + " stands in the list of the library");
        }
    }

    private static void write(BorderGuards x, String text) {
        for (int at = 0; at < text.length(); at++) {
            x.write(1, text.charAt(at));
        }
    }

    private static void dearCalls(BorderGuards x, String text) {
        x.wipe();
        write(x, text);
        x.fault();
        x.lay();
        for (int k = 0; k < 4; k++) {
            x.guard(k, 5 << k);
            x.carrier(k, k * 20);
            x.tenths(k, k + 1);
        }
        x.best(40, 0);
        x.fewest(1);
        x.more();
        x.weighed(3, 4, 0);
        x.oneMore(7, 2);
        x.leastPay();
        x.bestWay(3, 1);
        x.value(0);
        x.chance(0, 1, 1);
        x.told();
        x.nights(8, 15);
        x.judge(0);
        x.keep();
        x.back();
    }

    private static void room() {
        com.sun.management.ThreadMXBean threads = (com.sun.management.ThreadMXBean) ManagementFactory.getThreadMXBean();
        StringBuilder text = new StringBuilder();
        for (int p = 0; p < 12; p++) {
            int from = p / 3;
            text.append("p").append(from).append(",").append(from == 3 ? 7 : from + 1).append(",").append(20 + p)
                    .append(",3,").append(p % 5).append(",").append(7 * p).append(",").append(p).append(";");
        }
        String land = text.append("t0,3,2;t1,7,3;t8,11,4;c20;v300;o7;").toString();
        BorderGuards x = new BorderGuards();
        dearCalls(x, land);
        long id = Thread.currentThread().getId();
        long before = threads.getThreadAllocatedBytes(id);
        for (int i = 0; i < 20; i++) {
            dearCalls(x, land);
        }
        long calls = threads.getThreadAllocatedBytes(id) - before;
        check(calls < 20000, "calls make no objects: " + calls + " bytes");
        before = threads.getThreadAllocatedBytes(id);
        new BorderGuards();
        long one = threads.getThreadAllocatedBytes(id) - before;
        check(one < 100000, "a new object is small: " + one + " bytes");
    }

    public static void main(String[] args) throws Exception {
        face();
        rules();
        room();
        System.out.println(wrong == 0 ? "the face is as due" : wrong + " things are not so");
        if (wrong != 0) {
            System.exit(1);
        }
    }
}
