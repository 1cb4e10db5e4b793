import java.lang.reflect.Method;
import java.nio.file.Files;
import java.nio.file.Path;
import java.util.regex.Matcher;
import java.util.regex.Pattern;

/** The calls that README.md shows, in their order on one object, give the answers that it tells. */
public final class ReadmeTest {
    private static final Pattern CALL = Pattern.compile("house\\.(\\w+)\\(([^)]*)\\);\\s*// (-?\\d+|true|false)\\b");

    public static void main(String[] args) throws Exception {
        ToneHouse house = new ToneHouse();
        Matcher shown = CALL.matcher(Files.readString(Path.of("README.md")));
        int calls = 0;
        while (shown.find()) {
            calls++;
            Check.due("README.md: " + shown.group(), answer(house, shown.group(1), shown.group(2)).equals(shown.group(3)), true);
        }
        Check.due("README.md shows calls", calls >= 10, true);
        Check.finish();
    }

    private static String answer(ToneHouse house, String name, String list) throws Exception {
        String[] words = list.isEmpty() ? new String[0] : list.split(",\\s*");
        for (Method method : ToneHouse.class.getMethods()) {
            if (method.getName().equals(name)) {
                Object[] arguments = new Object[words.length];
                for (int i = 0; i < words.length; i++) {
                    boolean wide = method.getParameterTypes()[i] == long.class;
                    arguments[i] = wide ? (Object) Long.decode(words[i].replace("L", "")) : (Object) Integer.decode(words[i]);
                }
                return String.valueOf(method.invoke(house, arguments));
            }
        }
        return "no such method";
    }
}
