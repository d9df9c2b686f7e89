import java.lang.management.ManagementFactory;
import java.lang.reflect.Constructor;
import java.lang.reflect.Field;
import java.lang.reflect.Method;
import java.lang.reflect.Modifier;
import java.nio.charset.StandardCharsets;
import java.nio.file.Files;
import java.nio.file.Path;
import java.util.ArrayList;
import java.util.List;
import java.util.Map;
import java.util.Set;
import java.util.TreeSet;
import java.util.regex.Matcher;
import java.util.regex.Pattern;

/** The form of the program, as far as it can be looked at: the face, the words, the sizes, what a call makes. */
public final class CrowFencesLanguage {
    private static final Set<String> FACE = new TreeSet<>(List.of(
            "int feed(int)", "int plateau()", "int fault()", "int told(int)", "int snow(int)", "int post(int,int)",
            "int crow(int,int)", "int hour(int)", "int let(int,int)", "int giveUp(int)", "int move(int,boolean)",
            "int thaw(int)", "int shout(int)", "int drift(int)", "int undo()", "int lies(int,int)", "int open(int)",
            "int worth(int,int)", "int lets(int,int)", "int fewest(int)", "int yard(int,int,int)", "int out(int,int)",
            "int still(int,int)", "int see(int,int)", "int sublets(int)", "int fit(int)", "int write(int,int)",
            "int tear()", "int judge()", "int seed(int)", "int keep(int)", "int goBack(int)"));
    private static final Map<String, Integer> CONSTANTS = Map.of("NONE", -1, "UNKNOWN", -1000000001,
            "OUTSIDE", -1000000002, "NOT", -1000000003, "FULL", -1000000004);
    private static final Set<Class<?>> NUMBERS = Set.of(int.class, long.class, short.class, byte.class, char.class,
            boolean.class);
    private static final Set<String> LIBRARY = Set.of("Math.min", "Math.max", "Math.abs", "Integer.bitCount",
            "System.arraycopy");
    private static final String[] NEVER = {"throw", "throws", "try", "catch", "synchronized", "assert", "import", "package",
        "transient", "volatile", "native", "goto", "Object", "Exception", "Random", "Thread", "System\\.(?!arraycopy)"};

    private static int wrong = 0;

    public static void main(String[] args) throws Exception {
        theFace();
        theConstants();
        theClassesInside();
        theTypes();
        theSource(withoutComments(Files.readString(Path.of("src/main/java/CrowFences.java"), StandardCharsets.UTF_8)));
        whatCallsMake();
        System.out.println(wrong == 0 ? "the form is as due" : wrong + " faults of form");
        if (wrong != 0) {
            System.exit(1);
        }
    }

    private static void due(boolean holds, String what) {
        if (!holds) {
            wrong++;
            System.out.println(what);
        }
    }

    private static String signature(Method method) {
        List<String> types = new ArrayList<>();
        for (Class<?> type : method.getParameterTypes()) {
            types.add(type.getName());
        }
        return method.getReturnType().getName() + " " + method.getName() + "(" + String.join(",", types) + ")";
    }

    private static void theFace() {
        Set<String> seen = new TreeSet<>();
        Set<String> publicNames = new TreeSet<>();
        for (Method method : CrowFences.class.getDeclaredMethods()) {
            if (Modifier.isPublic(method.getModifiers())) {
                seen.add(signature(method));
                publicNames.add(method.getName());
                due(!Modifier.isStatic(method.getModifiers()), method + " is static");
            } else {
                due(Modifier.isPrivate(method.getModifiers()), method + " can be seen");
            }
        }
        due(seen.equals(FACE), "the public methods are " + seen);
        for (Field field : CrowFences.class.getDeclaredFields()) {
            int is = field.getModifiers();
            due(Modifier.isPrivate(is) || CONSTANTS.containsKey(field.getName()) && Modifier.isPublic(is), field + " can be seen");
            due(!Modifier.isStatic(is) || Modifier.isFinal(is), field + " is static and not final");
        }
        for (Constructor<?> constructor : CrowFences.class.getDeclaredConstructors()) {
            due(Modifier.isPublic(constructor.getModifiers()) && constructor.getParameterCount() == 0, "a constructor: " + constructor);
        }
        due(Modifier.isFinal(CrowFences.class.getModifiers()), "the class is not final");
        namesInside(publicNames);
    }

    private static void theConstants() throws Exception {
        for (Map.Entry<String, Integer> each : CONSTANTS.entrySet()) {
            Field field = CrowFences.class.getField(each.getKey());
            due(field.getType() == int.class && Modifier.isStatic(field.getModifiers()) && Modifier.isFinal(field.getModifiers()),
                field + " is no constant");
            due(field.getInt(null) == each.getValue(), field + " is " + field.getInt(null));
        }
    }

    private static void namesInside(Set<String> publicNames) {
        for (Class<?> inside : all(CrowFences.class)) {
            for (Method method : inside.getDeclaredMethods()) {
                due(Modifier.isPublic(method.getModifiers()) && inside == CrowFences.class
                    || !publicNames.contains(method.getName()), method + " bears the name of a public one");
                due(method.getParameterCount() <= 7, method + " takes more than seven");
            }
        }
    }

    private static List<Class<?>> all(Class<?> outer) {
        List<Class<?>> classes = new ArrayList<>();
        classes.add(outer);
        for (Class<?> inside : outer.getDeclaredClasses()) {
            classes.addAll(all(inside));
        }
        return classes;
    }

    private static void theClassesInside() {
        List<Class<?>> classes = all(CrowFences.class);
        due(classes.size() <= 12, "there are " + classes.size() + " classes");
        for (Class<?> each : classes) {
            int fields = 0;
            for (Field field : each.getDeclaredFields()) {
                int is = field.getModifiers();
                fields += Modifier.isStatic(is) ? 0 : 1;
                due(!Modifier.isStatic(is) || Modifier.isFinal(is), field + " is static and not final");
            }
            due(fields <= 20, each + " has " + fields + " fields");
            due(each == CrowFences.class || Modifier.isStatic(each.getModifiers()), each + " is not static");
            due(each == CrowFences.class || !Modifier.isPublic(each.getModifiers()), each + " is public");
        }
    }

    /** Numbers, the program's own classes, rows of either; what is static is a number. */
    private static void theTypes() {
        List<Class<?>> own = all(CrowFences.class);
        for (Class<?> each : own) {
            for (Field field : each.getDeclaredFields()) {
                Class<?> type = field.getType();
                Class<?> single = type.isArray() ? type.getComponentType() : type;
                due(NUMBERS.contains(single) || own.contains(single), field + " is of a type that is not used here");
                due(!Modifier.isStatic(field.getModifiers()) || type == int.class, field + " is static and no int");
            }
        }
    }

    private static String withoutComments(String source) {
        return source.replaceAll("(?s)/\\*.*?\\*/", "").replaceAll("//[^\n]*", "");
    }

    private static void theSource(String source) {
        for (String word : NEVER) {
            Matcher found = Pattern.compile("(?<![A-Za-z0-9_])" + word + "(?![A-Za-z0-9_])").matcher(source);
            due(!found.find(), "'" + word + "' stands in the source");
        }
        Matcher library = Pattern.compile("(?<![A-Za-z0-9_.])[A-Z][A-Za-z]*\\.[a-z][A-Za-z]*").matcher(source);
        while (library.find()) {
            due(LIBRARY.contains(library.group()), library.group() + " stands in the source");
        }
        due(!source.contains("->") && !source.contains("::"), "a lambda or a method reference stands in the source");
        due(!source.contains("\""), "a text stands in the source");
        due(source.chars().allMatch(c -> c < 128), "a sign above 127 stands in the source");
        methodLengths(source.split("\n"));
    }

    private static void methodLengths(String[] lines) {
        Pattern head = Pattern.compile("^( {4}| {8})[A-Za-z].*\\) \\{$");
        for (int i = 0; i < lines.length; i++) {
            Matcher matcher = head.matcher(lines[i]);
            if (matcher.find()) {
                String end = matcher.group(1) + "}";
                int length = 1;
                while (i + length < lines.length && !lines[i + length].equals(end)) {
                    length++;
                }
                due(length < 60, lines[i].trim() + " has " + length + " lines");
            }
        }
    }

    /** All is made in constructors: so no run of calls can make too much. */
    private static void whatCallsMake() {
        com.sun.management.ThreadMXBean threads = (com.sun.management.ThreadMXBean) ManagementFactory.getThreadMXBean();
        long id = Thread.currentThread().getId();
        allCalls(new CrowFences());
        CrowFences x = new CrowFences();
        threads.getThreadAllocatedBytes(id);
        long ahead = threads.getThreadAllocatedBytes(id);
        long asking = threads.getThreadAllocatedBytes(id) - ahead;
        ahead = threads.getThreadAllocatedBytes(id);
        allCalls(x);
        long made = threads.getThreadAllocatedBytes(id) - ahead - asking;
        due(made <= 0, "calls make objects of " + made + " bytes");
        ahead = threads.getThreadAllocatedBytes(id);
        new CrowFences();
        made = threads.getThreadAllocatedBytes(id) - ahead;
        due(made < 20000, "a new object has " + made + " bytes");
    }

    private static final String TEXT = "w12 2 60;r3;r4;p2 5;p5 1;p6 9;p7 1;p8 1;p9 1;c10 2;c4 9;c30 0;c9 1;c5 5;h12 10;h9 4;h5 10;";

    private static void allCalls(CrowFences x) {
        for (int i = 0; i < TEXT.length(); i++) {
            x.feed(TEXT.charAt(i));
        }
        x.plateau();
        x.fault();
        for (int k = -1; k < 16; k++) {
            x.told(k);
            x.snow(k);
            x.post(k, 2);
            x.crow(k, 2);
            x.let(k, k);
            x.hour(k);
            x.drift(k);
            x.thaw(k);
            x.shout(k);
            x.lies(k, 40);
            x.open(k);
            x.worth(k, k);
            x.lets(k, k);
            x.fewest(k);
            x.yard(k, k, 40);
            x.out(k, 9);
            x.still(k, 50);
            x.see(k, k);
            x.sublets(k);
            x.fit(k);
            x.write(k, k);
            x.move(k, true);
            x.giveUp(k);
        }
        x.undo();
        x.judge();
        x.tear();
        x.fit(0);
        x.seed(9);
        x.keep(0);
        x.goBack(0);
    }
}
