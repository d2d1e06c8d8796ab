import com.sun.management.ThreadMXBean;
import java.io.IOException;
import java.lang.management.ManagementFactory;
import java.lang.reflect.Field;
import java.lang.reflect.InvocationTargetException;
import java.lang.reflect.Method;
import java.lang.reflect.Modifier;
import java.nio.file.Files;
import java.nio.file.Path;
import java.util.ArrayList;
import java.util.Arrays;
import java.util.Comparator;
import java.util.List;
import java.util.Random;
import java.util.Set;
import java.util.TreeSet;
import java.util.regex.Matcher;
import java.util.regex.Pattern;

/** The rules of LANGUAGE.md that can be seen from outside or in the words of the program; FaceTest has rule 1. */
public final class LanguageTest {
    private static final int[] ODD = {Integer.MIN_VALUE, Integer.MIN_VALUE + 1, -2, -1, 0, 1, 2, 3, 7, 8, 127, 128, 255,
        256, 65_536, Integer.MAX_VALUE - 1, Integer.MAX_VALUE};
    private static final int CALLS = 300_000;

    public static void main(String[] args) throws IOException {
        String code = codeOf(Files.readString(Path.of("src/main/java/HopArena.java")));
        words(code);
        library(code);
        staticFields();
        sizes();
        callsMakeNoObjects();
        anyCallsInAnyState();
        Check.end();
    }

    /** Without comments, and without what stands in texts. */
    private static String codeOf(String source) {
        return source.replaceAll("(?s)/\\*.*?\\*/", "").replaceAll("\"[^\"\\n]*\"", "\"\"").replaceAll("//.*", "");
    }

    private static void words(String code) {
        Check.sentence("rules 2, 5, 6 and 13");
        for (String word : new String[] {"package", "finally", "try", "catch", "synchronized", "assert", "native",
            "volatile", "transient", "equals", "hashCode", "toString", "getMessage", "protected"}) {
            Check.due(word, Pattern.compile("\\b" + word + "\\b").matcher(code).find(), false);
        }
        for (String sign : new String[] {"->", "::", "@", "static {"}) {
            Check.due(sign, code.contains(sign), false);
        }
        Check.due("throws by itself or with a written text",
                found(code, "throw (?!new [A-Z]\\w+\\(\"?\"?\\);).*"), new TreeSet<String>());
    }

    private static void library(String code) {
        Check.sentence("rule 4: The library: only what stands here.");
        Check.due("imports", found(code, "import (.*);"), Set.of("java.util.NoSuchElementException"));
        Set<String> listed = new TreeSet<>(List.of("Part", "HopArena", "Math", "IndexOutOfBoundsException",
                "ArithmeticException", "IllegalArgumentException", "NoSuchElementException"));
        // Names of classes, unlike those of constants, have a small letter in them.
        Set<String> classes = found(code.replaceAll("import .*;", ""), "\\b([A-Z]\\w*[a-z]\\w*)\\b");
        classes.removeAll(listed);
        Check.due("other classes", classes, new TreeSet<String>());
        Check.due("of Math", found(code, "Math\\.(\\w+)"), Set.of("max"));
    }

    /** The last group of all that was found, or the whole of it when there is no group. */
    private static Set<String> found(String code, String pattern) {
        Set<String> found = new TreeSet<>();
        Matcher matcher = Pattern.compile(pattern).matcher(code);
        while (matcher.find()) {
            found.add(matcher.group(matcher.groupCount()));
        }
        return found;
    }

    private static void staticFields() {
        Check.sentence("rule 5: Static fields are final: constants of int, long, boolean, char or String");
        for (Class<?> one : classes()) {
            for (Field field : one.getDeclaredFields()) {
                if (Modifier.isStatic(field.getModifiers())) {
                    Check.due(field + " is final", Modifier.isFinal(field.getModifiers()), true);
                    Check.due(field + " is an int", field.getType(), int.class);
                }
            }
        }
    }

    private static List<Class<?>> classes() {
        List<Class<?>> classes = new ArrayList<>(Arrays.asList(HopArena.class.getDeclaredClasses()));
        classes.add(HopArena.class);
        return classes;
    }

    private static void sizes() {
        Check.sentence("rule 11: A method takes at most seven parameters ... the file has at most some twelve classes, "
                + "and a class some twenty fields beside its constants");
        Check.due("classes", classes().size() <= 12, true);
        for (Class<?> one : classes()) {
            int fields = 0;
            for (Field field : one.getDeclaredFields()) {
                fields += Modifier.isStatic(field.getModifiers()) ? 0 : 1;
            }
            Check.due("fields of " + one, fields <= 20, true);
            for (Method method : one.getDeclaredMethods()) {
                Check.due(method + " takes at most seven", method.getParameterCount() <= 7, true);
            }
        }
    }

    /** Only calls that throw make an object. */
    private static void callsMakeNoObjects() {
        Check.sentence("rule 12: What a run makes is counted ...: keep it small");
        ThreadMXBean threads = (ThreadMXBean) ManagementFactory.getThreadMXBean();
        HopArena x = new HopArena();
        long before = threads.getCurrentThreadAllocatedBytes();
        int answers = 0;
        for (int time = 0; time < 1000; time++) {
            for (int key = 0; key < 60; key++) {
                answers += x.put(1, key, time) ? 0 : x.get(1, key) + x.distance(1, key) + x.bits(1, x.home(1, key));
            }
            answers += x.remove(1, 7) + x.next(1, 0) + x.size(1) + x.about(1, 0) + x.count(2) + x.clear(1);
        }
        long made = threads.getCurrentThreadAllocatedBytes() - before;
        Check.due("bytes made, all calls answering " + answers, made < 10_000, true);
        Check.due("parts were made and pushed", x.count(1) > 1000 && x.count(2) > 100, true);
    }

    /**
     * What calls answer after the 512th is free, but they may not throw anything else even then. Between the same calls
     * of two objects a third one gets others, so that what objects had in common would be seen.
     */
    private static void anyCallsInAnyState() {
        Check.sentence("rules 6, 7 and 13: nothing else ever reaches its caller; the same calls always give the same "
                + "answers");
        Method[] methods = publicMethods();
        HopArena one = new HopArena();
        HopArena same = new HopArena();
        HopArena other = new HopArena();
        Random random = new Random(1);
        int refused = 0;
        for (int call = 0; call < CALLS; call++) {
            Method method = pick(methods, random);
            Object[] arguments = arguments(method, random);
            String answer = answer(one, method, arguments);
            refused += answer.equals("ArithmeticException") ? 1 : 0;
            Method otherMethod = pick(methods, random);
            answer(other, otherMethod, arguments(otherMethod, random));
            Check.due("the same call", answer(same, method, arguments), answer);
        }
        Check.due("refusals happened", refused > 100, true);
        Check.due("pushes happened", one.count(2) > 10, true);
    }

    private static Method[] publicMethods() {
        Method[] methods = HopArena.class.getDeclaredMethods();
        Arrays.sort(methods, Comparator.comparing(Method::getName));
        return Arrays.stream(methods).filter(method -> Modifier.isPublic(method.getModifiers())).toArray(Method[]::new);
    }

    /** Every other call puts, lest maps stay small; few clear. */
    private static Method pick(Method[] methods, Random random) {
        String name = random.nextBoolean() ? "put" : methods[random.nextInt(methods.length)].getName();
        String picked = name.equals("clear") && random.nextInt(20) > 0 ? "remove" : name;
        return Arrays.stream(methods).filter(method -> method.getName().equals(picked)).findFirst().orElseThrow();
    }

    private static Object[] arguments(Method method, Random random) {
        Object[] arguments = new Object[method.getParameterCount()];
        for (int i = 0; i < arguments.length; i++) {
            boolean isOdd = random.nextInt(10) == 0;
            arguments[i] = isOdd ? ODD[random.nextInt(ODD.length)] : random.nextInt(i == 0 ? 3 : 150);
        }
        return arguments;
    }

    private static String answer(HopArena object, Method method, Object[] arguments) {
        try {
            return String.valueOf(method.invoke(object, arguments));
        } catch (InvocationTargetException e) {
            Class<?> thrown = e.getCause().getClass();
            boolean named = Arrays.asList(method.getExceptionTypes()).contains(thrown);
            Check.due(method.getName() + Arrays.toString(arguments) + " throws " + thrown, named, true);
            return thrown.getSimpleName();
        } catch (IllegalAccessException e) {
            throw new IllegalStateException(e);
        }
    }
}
