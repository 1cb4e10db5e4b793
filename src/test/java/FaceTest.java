import java.io.IOException;
import java.lang.reflect.Constructor;
import java.lang.reflect.Field;
import java.lang.reflect.Method;
import java.lang.reflect.Modifier;
import java.nio.file.Files;
import java.nio.file.Path;
import java.util.ArrayList;
import java.util.Arrays;
import java.util.List;
import java.util.Set;
import java.util.TreeSet;
import java.util.regex.Matcher;
import java.util.regex.Pattern;

/** The face of the class, the words its source does without, and calls with any arguments in any order. */
public final class FaceTest {
    private static final String[] FACE = {
        "boolean octave(int)", "int image(int,int,int)", "int name(int,int)", "int own(int,int,int)",
        "int classes(int,int)", "int nameOf(int,int,int)", "int interval(int,int)", "int twin(int)",
        "int within(int,int,int)", "int lead(int,int,int)", "int road(int,int)", "boolean row(int,long)",
        "int form(int,int,int,int)", "int about(int,int)", "int partners(int,int)", "int split(int,int)",
        "int full()", "boolean pick(int,int)", "int rank(int)", "int fills(int,int)", "int fill(int,int,int)",
        "int pure(int,int)", "int period(int,int)", "int feed(int,int,int,int,int)", "int end(int)", "int load()",
        "int fault(int)", "int score(int)", "int voice(int,int)", "int sings(int,int)", "int chord(int)",
        "int fit(int,int)", "boolean keep(int,int)", "int write()", "int out(int)", "int take()"};

    public static void main(String[] args) throws Exception {
        face();
        source();
        sizes();
        anyCalls();
        Check.finish();
    }

    private static void face() {
        Class<?> type = ToneHouse.class;
        Check.due("the class is public and final", type.getModifiers(), Modifier.PUBLIC | Modifier.FINAL);
        Set<String> seen = new TreeSet<>();
        Set<String> names = new TreeSet<>();
        for (Method method : type.getDeclaredMethods()) {
            if (!Modifier.isPrivate(method.getModifiers())) {
                Check.due(method + " is public", method.getModifiers(), Modifier.PUBLIC);
                String parameters = Arrays.toString(method.getParameterTypes()).replaceAll("[\\[\\] ]", "");
                seen.add(method.getReturnType() + " " + method.getName() + "(" + parameters + ")");
                names.add(method.getName());
            }
        }
        Set<String> due = new TreeSet<>(Arrays.asList(FACE));
        Check.due("the methods are " + seen + ", due " + due, seen.equals(due), true);
        for (Class<?> inside : type.getDeclaredClasses()) {
            Check.due(inside + " is static", Modifier.isStatic(inside.getModifiers()), true);
            Check.due(inside + " is not public", Modifier.isPublic(inside.getModifiers()), false);
        }
        for (Method method : type.getDeclaredMethods()) {
            boolean hidden = Modifier.isPrivate(method.getModifiers());
            Check.due(method + " bears a public name", hidden && names.contains(method.getName()), false);
        }
        for (Field field : type.getDeclaredFields()) {
            boolean own = Modifier.isPrivate(field.getModifiers());
            Check.due(field + " is private or NONE", own || field.getName().equals("NONE"), true);
        }
        for (Constructor<?> made : type.getDeclaredConstructors()) {
            Check.due(made + " is public", made.getModifiers(), Modifier.PUBLIC);
            Check.due(made + " takes nothing", made.getParameterCount(), 0);
        }
        Check.due("NONE", ToneHouse.NONE, -1);
    }

    private static void source() throws IOException {
        String text = Files.readString(Path.of("src/main/java/ToneHouse.java"));
        String code = text.replaceAll("(?s)/\\*.*?\\*/", "").replaceAll("//[^\n]*", "").replaceAll("\"[^\"\n]*\"", "\"\"");
        for (String word : new String[] {"throw", "try", "catch", "synchronized", "assert", "instanceof", "package"}) {
            Check.due("the source has " + word, Pattern.compile("\\b" + word + "\\b").matcher(code).find(), false);
        }
        for (String sign : new String[] {"->", "::", "Exact", "System.out", "Random", "nanoTime", "currentTime"}) {
            Check.due("the source has " + sign, code.contains(sign), false);
        }
        loops(code);
    }

    /** Rule 9: an end that can be seen from the loop's own lines, so its step is reckoned there, by no call. */
    private static void loops(String code) {
        Matcher loop = Pattern.compile("\\bfor \\(([^;]*);([^;]*);([^{]*)\\) \\{").matcher(code);
        int seen = 0;
        while (loop.find()) {
            seen++;
            Check.due("a call steps on in " + loop.group(), loop.group(3).contains("("), false);
        }
        int all = code.split("\\b(for|while|do)\\b", -1).length - 1;
        Check.due("loops that step on by a counter of their own", seen, all);
    }

    /** Rule 11: at most seven parameters, some twelve classes, some twenty fields beside the constants. */
    private static void sizes() {
        List<Class<?>> all = new ArrayList<>(Arrays.asList(ToneHouse.class.getDeclaredClasses()));
        all.add(ToneHouse.class);
        Check.due("12 classes at most, not " + all.size(), all.size() <= 12, true);
        for (Class<?> type : all) {
            int fields = 0;
            for (Field field : type.getDeclaredFields()) {
                fields += Modifier.isStatic(field.getModifiers()) ? 0 : 1;
                boolean constant = !Modifier.isStatic(field.getModifiers()) || Modifier.isFinal(field.getModifiers());
                Check.due(field + " is final if it is static", constant, true);
            }
            Check.due("20 fields at most in " + type + ", not " + fields, fields <= 20, true);
            for (Method method : type.getDeclaredMethods()) {
                Check.due(method + " takes 7 at most", method.getParameterCount() <= 7, true);
            }
        }
    }

    /** Any exception ends this test with a code other than 0. */
    private static void anyCalls() throws Exception {
        java.util.Random random = new java.util.Random(3);
        Method[] methods = ToneHouse.class.getDeclaredMethods();
        Arrays.sort(methods, (a, b) -> a.toString().compareTo(b.toString()));
        int calls = 0;
        for (int round = 0; round < 200; round++) {
            ToneHouse x = new ToneHouse();
            for (int i = 0; i < 512; i++) {
                if (i % 64 == 0) {
                    loadSome(x);
                }
                Method method = methods[random.nextInt(methods.length)];
                if (!Modifier.isPublic(method.getModifiers())) {
                    continue;
                }
                Object[] arguments = new Object[method.getParameterCount()];
                for (int p = 0; p < arguments.length; p++) {
                    boolean wide = method.getParameterTypes()[p] == long.class;
                    arguments[p] = wide ? (Object) anyRow(random) : (Object) anyInt(random);
                }
                method.invoke(x, arguments);
                calls++;
            }
        }
        Check.due("many calls were made", calls > 10000, true);
    }

    /** Random bytes hardly ever make a score, so a small one comes from time to time. */
    private static void loadSome(ToneHouse x) {
        x.octave(3);
        x.end(0);
        x.feed(0x726F7720, 0x613D3020, 0x3120323B, 0x766F6963, 0x65206120);
        x.feed(0x70203220, 0x61742031, 0x3B766F69, 0x63652061, 0x20752030);
        x.feed(0x61742030, 0x3B202020, 0x20202020, 0x20202020, 0x20202020);
        Check.due("27: load of two voices", x.load(), 2);
    }

    private static long anyRow(java.util.Random random) {
        return random.nextBoolean() ? 0xBA9876543210L >>> 4 * random.nextInt(2) : random.nextLong();
    }

    static int anyInt(java.util.Random random) {
        switch (random.nextInt(6)) {
            case 0:
                return random.nextInt();
            case 1:
                return Integer.MIN_VALUE + random.nextInt(3);
            case 2:
                return Integer.MAX_VALUE - random.nextInt(3);
            case 3:
                return random.nextInt(4200);
            default:
                return random.nextInt(16) - 2;
        }
    }
}
