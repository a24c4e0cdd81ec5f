import java.lang.management.ManagementFactory;
import java.lang.reflect.Constructor;
import java.lang.reflect.Field;
import java.lang.reflect.Method;
import java.lang.reflect.Modifier;
import java.nio.file.Files;
import java.nio.file.Path;
import java.util.ArrayList;
import java.util.Arrays;
import java.util.IdentityHashMap;
import java.util.List;
import java.util.Map;
import java.util.TreeSet;

/** The public face, the parts of the language that are left out, and how much room an object takes. */
public final class FaceTests {
    private static final String[] FACE = {
        "int NONE", "int MANY", "int ENDLESS", "int NOTHING", "RuleTrees()",
        "int sort()", "int variable(int)", "int begin(int)", "int put(int)", "int close()", "int token(int)",
        "int drop()", "int trees(int,int,int)", "int size(int,int)", "int code(int,int,int)",
        "int stretches(int,int)", "int type(int)", "int clear()", "int grow(int)", "int place()",
        "int shortest(int)", "int about(int,int)", "int symbol(int,int)", "int count(int)", "int check()"};
    private static final String[] LEFT_OUT = {
        "throw", "throws", "try", "catch", "finally", "synchronized", "assert", "import", "package", "native",
        "volatile", "Exact", "System", "Thread", "Random", "Object", "->", "::"};
    private static final int MOST_ELEMENTS = 14000;
    private static final int MOST_CLASSES = 12;
    private static final int MOST_PARAMETERS = 7;
    private static final int MOST_LINES = 60;

    private static int wrong = 0;

    private FaceTests() {
    }

    private static void due(String what, Object got, Object want) {
        if (!got.equals(want)) {
            wrong++;
            System.out.println(what + ": " + got + ", due is " + want);
        }
    }

    private static String arguments(Class<?>[] types) {
        List<String> names = new ArrayList<>();
        for (Class<?> type : types) {
            names.add(type.getSimpleName());
        }
        return "(" + String.join(",", names) + ")";
    }

    private static void face() {
        TreeSet<String> found = new TreeSet<>();
        TreeSet<String> names = new TreeSet<>();
        TreeSet<String> hidden = new TreeSet<>();
        for (Field field : RuleTrees.class.getDeclaredFields()) {
            note(field.getModifiers(), field.getType().getSimpleName() + " " + field.getName(), found);
            if (Modifier.isStatic(field.getModifiers())) {
                due(field.getName() + " is final", Modifier.isFinal(field.getModifiers()), true);
            }
        }
        for (Constructor<?> constructor : RuleTrees.class.getDeclaredConstructors()) {
            note(constructor.getModifiers(), "RuleTrees" + arguments(constructor.getParameterTypes()), found);
        }
        for (Method method : RuleTrees.class.getDeclaredMethods()) {
            String told = method.getReturnType().getSimpleName() + " " + method.getName()
                + arguments(method.getParameterTypes());
            note(method.getModifiers(), told, found);
            (Modifier.isPrivate(method.getModifiers()) ? hidden : names).add(method.getName());
        }
        due("the face", found, new TreeSet<>(Arrays.asList(FACE)));
        hidden.retainAll(names);
        due("private methods with a public name", hidden, new TreeSet<String>());
        due("public", Modifier.isPublic(RuleTrees.class.getModifiers()), true);
        due("final", Modifier.isFinal(RuleTrees.class.getModifiers()), true);
        for (Class<?> inside : RuleTrees.class.getDeclaredClasses()) {
            due(inside + " is static", Modifier.isStatic(inside.getModifiers()), true);
            due(inside + " is private", Modifier.isPrivate(inside.getModifiers()), true);
            due(inside + " has few fields", inside.getDeclaredFields().length <= 20, true);
        }
    }

    private static void note(int modifiers, String member, TreeSet<String> found) {
        if (!Modifier.isPrivate(modifiers)) {
            due(member + " is public", Modifier.isPublic(modifiers), true);
            found.add(member);
        }
    }

    private static void language() throws Exception {
        String source = Files.readString(Path.of("src/main/java/RuleTrees.java"));
        String code = source.replaceAll("(?s)/\\*.*?\\*/", " ").replaceAll("//[^\n]*", " ");
        for (String word : LEFT_OUT) {
            String edge = Character.isLetter(word.charAt(0)) && !word.equals("Exact") ? "\\b" : "";
            boolean there = java.util.regex.Pattern.compile(edge + java.util.regex.Pattern.quote(word) + edge)
                .matcher(code).find();
            due("'" + word + "' in the program", there, false);
        }
    }

    /** Rule 11: short lists of parameters, few classes, short methods. */
    private static void sizes() throws Exception {
        Class<?>[] inside = RuleTrees.class.getDeclaredClasses();
        due("at most " + MOST_CLASSES + " classes", 1 + inside.length <= MOST_CLASSES, true);
        parameters(RuleTrees.class);
        for (Class<?> one : inside) {
            parameters(one);
        }
        String end = null;
        int begin = 0;
        int number = 0;
        for (String line : Files.readAllLines(Path.of("src/main/java/RuleTrees.java"))) {
            number++;
            if (line.matches(" {4}( {4})?(?!if|for|while|switch)\\w[^=;]*\\) \\{")) {
                begin = number;
                end = line.replaceAll("\\S.*", "}");
            } else if (line.equals(end)) {
                due("lines " + begin + " to " + number + " are short", number - begin < MOST_LINES, true);
                end = null;
            }
        }
    }

    private static void parameters(Class<?> type) {
        for (Method method : type.getDeclaredMethods()) {
            due(method + " has few parameters", method.getParameterCount() <= MOST_PARAMETERS, true);
        }
    }

    /** What is reached by several ways is counted once. */
    private static int elements(Object held, Map<Object, Boolean> counted) throws Exception {
        if (counted.put(held, true) != null) {
            return 0;
        }
        if (held instanceof int[] row) {
            return row.length;
        }
        int sum = 0;
        for (Field field : held.getClass().getDeclaredFields()) {
            if (Modifier.isStatic(field.getModifiers())) {
                continue;
            }
            field.setAccessible(true);
            sum += 1 + (field.getType().isPrimitive() ? 0 : elements(field.get(held), counted));
        }
        return sum;
    }

    /** Even a run that does nothing but make objects stays in the room of 7.3 million elements. */
    private static void room() throws Exception {
        int told = elements(new RuleTrees(), new IdentityHashMap<>());
        System.out.println("an object holds " + told + " fields and elements");
        due("at most " + MOST_ELEMENTS + " elements", told <= MOST_ELEMENTS, true);
        if (ManagementFactory.getThreadMXBean() instanceof com.sun.management.ThreadMXBean bean
            && bean.isThreadAllocatedMemorySupported()) {
            RuleTrees x = new RuleTrees();
            callAll(x);
            long before = bean.getThreadAllocatedBytes(Thread.currentThread().getId());
            for (int k = 0; k < 200; k++) {
                callAll(x);
            }
            long made = bean.getThreadAllocatedBytes(Thread.currentThread().getId()) - before;
            due("calls make nothing (" + made + " bytes)", made < 4096, true);
        }
    }

    private static void callAll(RuleTrees x) {
        x.sort();
        x.variable(0);
        x.begin(0);
        x.put(-1);
        x.put(0);
        x.close();
        x.drop();
        x.token(-1);
        x.token(0);
        x.token(0);
        x.trees(0, 0, 2);
        x.size(0, 1);
        x.code(0, 0, 1);
        x.stretches(0, 1);
        x.clear();
        x.type(0);
        x.type(-1);
        x.grow(0);
        x.place();
        x.shortest(0);
        x.about(0, 0);
        x.symbol(0, 0);
        x.count(0);
        x.check();
    }

    public static void main(String[] args) throws Exception {
        face();
        language();
        sizes();
        room();
        System.out.println(wrong == 0 ? "the face is as due" : wrong + " things are not as due");
        if (wrong != 0) {
            System.exit(1);
        }
    }
}
