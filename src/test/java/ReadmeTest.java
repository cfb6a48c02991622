import java.lang.reflect.Method;
import java.nio.file.Files;
import java.nio.file.Path;
import java.util.HashMap;
import java.util.Map;
import java.util.Set;
import java.util.TreeSet;
import java.util.regex.Matcher;
import java.util.regex.Pattern;

/** The calls that README.md shows, made in its order on one object, answer what stands behind them. */
public final class ReadmeTest {
    private static final Due DUE = new Due();
    private static final Pattern CALL = Pattern.compile("(?m)^x\\.(\\w+)\\((.*?)\\); +// (-?\\d+)");
    /** Shown in words alone. */
    private static final String WIPE = "wipe";

    public static void main(String[] args) throws Exception {
        Map<String, Method> face = new HashMap<>();
        for (Method method : SaturdaySale.class.getDeclaredMethods()) {
            if (java.lang.reflect.Modifier.isPublic(method.getModifiers())) {
                face.put(method.getName(), method);
            }
        }
        SaturdaySale x = new SaturdaySale();
        Set<String> shown = new TreeSet<>(Set.of(WIPE));
        Matcher matcher = CALL.matcher(Files.readString(Path.of("README.md")));
        while (matcher.find()) {
            String name = matcher.group(1);
            shown.add(name);
            Number answer = (Number) face.get(name).invoke(x, numbers(matcher.group(2)));
            DUE.is(name + "(" + matcher.group(2) + ")", answer.longValue(), Long.parseLong(matcher.group(3)));
        }
        DUE.is("calls of the face that README.md shows", shown.size(), face.size());
        DUE.end();
    }

    private static Object[] numbers(String list) {
        if (list.isEmpty()) {
            return new Object[0];
        }
        String[] parts = list.split(", ");
        Object[] numbers = new Object[parts.length];
        for (int i = 0; i < parts.length; i++) {
            numbers[i] = parts[i].charAt(0) == '\'' ? (int) parts[i].charAt(1) : Integer.parseInt(parts[i]);
        }
        return numbers;
    }
}
