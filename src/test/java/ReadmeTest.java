import java.lang.reflect.InvocationTargetException;
import java.lang.reflect.Method;
import java.nio.file.Files;
import java.nio.file.Path;
import java.util.HashMap;
import java.util.Map;
import java.util.Set;
import java.util.TreeSet;
import java.util.regex.Matcher;
import java.util.regex.Pattern;

/** README.md tells calls with their answers: they are made in its order, and each answer must be the one told. */
public final class ReadmeTest {
    private static final Pattern MADE = Pattern.compile("RiddleMill mill = new RiddleMill\\((\\d+), (\\d+)\\);.*");
    private static final Pattern CALL = Pattern.compile("mill\\.(\\w+)\\((.*)\\); +// (-?\\w+): .*");
    private static final Map<String, Method> FACE = new HashMap<>();

    private static Object[] arguments(Method method, String text) {
        String[] words = text.isEmpty() ? new String[0] : text.split(", ");
        Object[] values = new Object[words.length];
        for (int k = 0; k < words.length; k++) {
            String word = words[k].replace("RiddleMill.NONE", "-1").replace("L", "");
            values[k] = method.getParameterTypes()[k] == long.class
                ? (Object) Long.decode(word) : (Object) Integer.decode(word);
        }
        return values;
    }

    private static String answer(RiddleMill mill, Method method, Object[] arguments) throws IllegalAccessException {
        try {
            Object answer = method.invoke(mill, arguments);
            return answer == null ? "void" : answer.toString();
        } catch (InvocationTargetException e) {
            return e.getCause().getClass().getSimpleName();
        }
    }

    public static void main(String[] args) throws Exception {
        for (Method method : RiddleMill.class.getDeclaredMethods()) {
            FACE.put(method.getName(), method);
        }
        RiddleMill mill = null;
        Set<String> used = new TreeSet<>();
        for (String line : Files.readAllLines(Path.of("README.md"))) {
            Matcher made = MADE.matcher(line);
            Matcher call = CALL.matcher(line);
            if (made.matches()) {
                mill = new RiddleMill(Integer.parseInt(made.group(1)), Integer.parseInt(made.group(2)));
            } else if (call.matches()) {
                Method method = FACE.get(call.group(1));
                used.add(call.group(1));
                Check.equal(line, answer(mill, method, arguments(method, call.group(2))), call.group(3));
            } else if (line.startsWith("mill.")) {
                Check.isTrue("the call has its answer: " + line, false);
            }
        }
        Check.equal("how many methods of the face README.md uses", used.size(), 18);
        Check.done();
    }
}
