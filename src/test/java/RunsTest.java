import java.lang.reflect.Method;
import java.lang.reflect.Modifier;
import java.util.ArrayList;
import java.util.Arrays;
import java.util.Collections;
import java.util.Comparator;
import java.util.List;
import java.util.Random;

/** Runs of 512 calls of all promises, mixed by chance, each answer against the plain house. */
public final class RunsTest {
    private static final int RUNS = 200;
    private static final int CALLS = 512;

    private final Random random;
    private final ToneHouse house = new ToneHouse();
    private final PlainHouse plain = new PlainHouse();
    private final int run;
    private int calls = 0;

    private RunsTest(int run) {
        this.run = run;
        random = new Random(run);
    }

    public static void main(String[] args) throws Exception {
        List<Method> methods = new ArrayList<>(Arrays.asList(ToneHouse.class.getDeclaredMethods()));
        methods.removeIf(method -> !Modifier.isPublic(method.getModifiers()));
        methods.sort(Comparator.comparing(Method::getName));
        for (int run = 0; run < RUNS; run++) {
            new RunsTest(run).go(methods);
        }
        Check.due("all promised methods were called", methods.size(), 36);
        Check.finish();
    }

    private void go(List<Method> methods) throws Exception {
        call(ToneHouse.class.getDeclaredMethod("octave", int.class), 3 + run % 10);
        while (calls < CALLS) {
            int chance = random.nextInt(40);
            if (chance == 0) {
                readText();
            } else if (chance == 1) {
                writeAndTake();
            } else {
                Method method = methods.get(random.nextInt(methods.size()));
                if (!empties(method) || random.nextInt(10) == 0) {
                    call(method, argumentsOf(method));
                }
            }
        }
    }

    /** What these empty is mostly left for the calls to come. */
    private static boolean empties(Method method) {
        return method.getName().equals("octave") || method.getName().equals("load");
    }

    private void call(Method method, Object... arguments) throws Exception {
        if (calls >= CALLS) {
            return;
        }
        calls++;
        Method same = PlainHouse.class.getDeclaredMethod(method.getName(), method.getParameterTypes());
        Object got = method.invoke(house, arguments);
        Object want = same.invoke(plain, arguments);
        String said = "run " + run + ", call " + calls + ": " + method.getName() + Arrays.toString(arguments);
        Check.due(said, number(got), number(want));
    }

    private void call(String name, Object... arguments) throws Exception {
        Class<?>[] types = new Class<?>[arguments.length];
        Arrays.fill(types, int.class);
        call(ToneHouse.class.getDeclaredMethod(name, types), arguments);
    }

    private static long number(Object answer) {
        return answer instanceof Boolean ? ((Boolean) answer ? 1L : 0L) : (Integer) answer;
    }

    private void readText() throws Exception {
        String text = MadeTexts.madeText(random, plain.size());
        if (random.nextInt(3) == 0) {
            text = MadeTexts.spoiled(random, text);
        }
        call("end", 0);
        for (int i = 0; i < text.length(); i += 20) {
            call("feed", Texts.four(text, i), Texts.four(text, i + 4), Texts.four(text, i + 8), Texts.four(text, i + 12),
                Texts.four(text, i + 16));
        }
        call("end", text.length());
        call("load");
        call("fault", 0);
        call("fault", 1);
    }

    private void writeAndTake() throws Exception {
        call("write");
        call("take");
        if (random.nextInt(3) == 0) {
            call("end", random.nextInt(200));
        }
        call("load");
    }

    private Object[] argumentsOf(Method method) {
        Object[] made = new Object[method.getParameterCount()];
        for (int p = 0; p < made.length; p++) {
            if (method.getParameterTypes()[p] == long.class) {
                made[p] = anyRow();
            } else {
                made[p] = random.nextInt(25) == 0 ? FaceTest.anyInt(random) : likely(method.getName(), p);
            }
        }
        boolean pairs = method.getName().equals("lead") || method.getName().equals("road");
        if (pairs && random.nextInt(4) != 0) {
            made[1] = sameSize((Integer) made[0]);
        }
        return made;
    }

    private long anyRow() {
        List<Integer> notes = new ArrayList<>();
        for (int i = 0; i < plain.size(); i++) {
            notes.add(i);
        }
        Collections.shuffle(notes, random);
        if (random.nextInt(4) == 0) {
            notes.set(random.nextInt(notes.size()), random.nextInt(16));
        }
        return RowsTest.packed(notes) | random.nextLong() << 4 * plain.size();
    }

    private int set() {
        return random.nextInt((1 << plain.size()) + 1);
    }

    /** At most six notes, so that all pairings can be tried. */
    private int smallSet() {
        int set = set();
        while (Integer.bitCount(set) > 6) {
            set &= set();
        }
        return set;
    }

    private int sameSize(int set) {
        int made = 0;
        for (int tries = 0; tries < 100 && Integer.bitCount(made) < Integer.bitCount(set); tries++) {
            made |= 1 << random.nextInt(plain.size());
        }
        return made;
    }

    private int upTo(int most) {
        return random.nextInt(most + 1);
    }

    /** A value that the document knows for the parameter, or the next one behind. */
    private int likely(String name, int p) {
        int n = plain.size();
        switch (name) {
            case "octave":
                return 2 + upTo(11);
            case "image":
                return p == 0 ? set() : p == 1 ? random.nextBoolean() ? 1 : upTo(n) : upTo(n);
            case "name":
                return p == 0 ? upTo(3) : set();
            case "own":
                return p == 1 ? set() : upTo(3);
            case "classes":
                return p == 0 ? upTo(3) : upTo(n + 1);
            case "nameOf":
                return p == 0 ? upTo(3) : p == 1 ? upTo(n + 1) : upTo(random.nextBoolean() ? 3 : 60);
            case "interval":
                return p == 0 ? set() : upTo(n / 2 + 1);
            case "twin":
                return set();
            case "within":
                return p == 0 ? upTo(3) : p == 1 ? set() & set() : set() | set();
            case "lead":
                return p < 2 ? smallSet() : upTo(8);
            case "road":
                return set();
            default:
                return likelyOfRows(name, p, n);
        }
    }

    private int likelyOfRows(String name, int p, int n) {
        switch (name) {
            case "row":
            case "rank":
                return upTo(6);
            case "form":
                return p == 0 ? upTo(6) : p == 1 ? upTo(4) : upTo(n);
            case "about":
                return p == 0 ? upTo(6) : upTo(3);
            case "partners":
                return p == 0 ? upTo(6) : upTo(4);
            case "split":
                return p == 0 ? upTo(6) : upTo(n + 1);
            case "pick":
                return p == 0 ? upTo(6) : upTo(Math.max(1, plain.full()));
            case "fills":
            case "fill":
            case "pure":
            case "period":
                return p == 0 ? 1 + upTo(15) : p == 2 ? upTo(4) : beats();
            default:
                return likelyOfScores(name, p);
        }
    }

    private int beats() {
        int[] some = {1, 3, 5, 9, 17, 33, 65, 7, 21, 15, 51, 85, 273, 585, 4369};
        return random.nextInt(3) == 0 ? random.nextInt(1 << 16) : some[random.nextInt(some.length)];
    }

    private int likelyOfScores(String name, int p) {
        switch (name) {
            case "feed":
                return 0x20202020;
            case "end":
                return upTo(100);
            case "fault":
                return upTo(2);
            case "score":
                return upTo(4);
            case "voice":
                return p == 0 ? upTo(8) : upTo(5);
            case "sings":
                return p == 0 ? upTo(8) : upTo(53);
            case "chord":
                return upTo(53);
            case "fit":
                return p == 0 ? upTo(8) : upTo(41);
            case "keep":
                return p == 0 ? upTo(8) : upTo(6);
            default:
                return upTo(200);
        }
    }
}
