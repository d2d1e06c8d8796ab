import java.io.IOException;
import java.lang.reflect.InvocationTargetException;
import java.lang.reflect.Method;
import java.lang.reflect.Modifier;
import java.nio.file.Files;
import java.nio.file.Path;
import java.util.Arrays;
import java.util.regex.Matcher;
import java.util.regex.Pattern;

/** README.md says how to use each method, and what its run of calls answers is true. */
public final class ReadmeTest {
    private static final Pattern CALL = Pattern.compile("^arena\\.(\\w+)\\((.*)\\); +// ([\\w-]+)", Pattern.MULTILINE);

    public static void main(String[] args) throws IOException {
        String readme = Files.readString(Path.of("README.md"));
        eachMethod(readme);
        runOfCalls(readme);
        Check.due("how to run the tests", readme.contains("\n.ci/run\n"), true);
        Check.end();
    }

    private static void eachMethod(String readme) {
        for (Method method : HopArena.class.getDeclaredMethods()) {
            if (Modifier.isPublic(method.getModifiers())) {
                String row = "| `" + method.getReturnType() + " " + method.getName() + "(";
                Check.due(method.getName() + " is told", readme.contains(row), true);
                Check.due(method.getName() + " is shown", readme.contains("arena." + method.getName() + "("), true);
            }
        }
    }

    private static void runOfCalls(String readme) {
        HopArena arena = new HopArena();
        int calls = 0;
        Matcher call = CALL.matcher(readme);
        while (call.find()) {
            Check.due(call.group(), answer(arena, call.group(1), call.group(2)), call.group(3));
            calls++;
        }
        Check.due("calls were found", calls > 12, true);
    }

    private static String answer(HopArena arena, String name, String arguments) {
        Object[] numbers = Arrays.stream(arguments.split(", ")).map(Integer::valueOf).toArray();
        Class<?>[] types = new Class<?>[numbers.length];
        Arrays.fill(types, int.class);
        try {
            return String.valueOf(HopArena.class.getMethod(name, types).invoke(arena, numbers));
        } catch (InvocationTargetException e) {
            return e.getCause().getClass().getSimpleName();
        } catch (NoSuchMethodException | IllegalAccessException e) {
            return e.toString();
        }
    }
}
