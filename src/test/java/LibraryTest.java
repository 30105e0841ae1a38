import java.lang.reflect.InvocationTargetException;
import java.lang.reflect.Method;
import java.util.ArrayList;
import java.util.Arrays;
import java.util.Comparator;
import java.util.List;

/**
 * All promises: runs of 512 calls, each made of a Splityard and of a LibraryYard, which answer alike. The calls are
 * drawn by a fixed rule, so that each test run makes the same ones.
 */
public final class LibraryTest {
    private static final int RUNS = 1500;
    private static final int CALLS = 512;
    private static final long[] NUMBERS = {0, 1, -1, 7, -31, 1000003, Integer.MAX_VALUE, Integer.MIN_VALUE,
        Integer.MAX_VALUE + 1L, Integer.MIN_VALUE - 1L, 1L << 32, Long.MAX_VALUE, Long.MIN_VALUE};
    private static final int[] WILD = {-1, -2, 4, 6, 48, 49, 96, 97, Integer.MAX_VALUE, Integer.MIN_VALUE};
    private static final Check CHECK = new Check("LibraryTest");

    private static long drawn = 1;
    private static Splityard yard;
    private static LibraryYard library;
    private static int lastBench;

    public static void main(String[] args) throws ReflectiveOperationException {
        CHECK.of("all promises, as the library's own spliterators tell it");
        List<Method> methods = methodsDrawn();
        for (int run = 0; run < RUNS; run++) {
            yard = new Splityard();
            library = new LibraryYard();
            boolean tame = run % 3 != 0;
            for (int call = 0; call < CALLS; call += 2) {
                compare(run, methods.get(draw(methods.size())), tame);
                CHECK.same("run " + run + ", call " + call + ": checksum()", library.checksum(), yard.checksum());
            }
        }
        CHECK.end();
    }

    /** Sorted, as the machine gives them in no fixed sequence; those that build and read come more often. */
    private static List<Method> methodsDrawn() {
        List<Method> methods = new ArrayList<>(Arrays.asList(Splityard.class.getDeclaredMethods()));
        methods.removeIf(method -> !java.lang.reflect.Modifier.isPublic(method.getModifiers()));
        methods.sort(Comparator.comparing(Method::getName));
        List<String> often = List.of("lay", "append", "open", "openAll", "split", "step", "drain", "iterate",
                "crumble");
        for (Method method : List.copyOf(methods)) {
            if (often.contains(method.getName())) {
                methods.add(method);
                methods.add(method);
            }
        }
        return methods;
    }

    private static void compare(int run, Method method, boolean tame) throws ReflectiveOperationException {
        Object[] arguments = arguments(method, tame);
        Method twin = LibraryYard.class.getMethod(method.getName(), method.getParameterTypes());
        String call = "run " + run + ": " + method.getName() + Arrays.toString(arguments);
        CHECK.same(call, answer(twin, library, arguments), answer(method, yard, arguments));
    }

    private static Object answer(Method method, Object target, Object[] arguments) throws IllegalAccessException {
        try {
            return method.invoke(target, arguments);
        } catch (InvocationTargetException thrown) {
            return "throws." + thrown.getCause().getClass().getName();
        }
    }

    private static Object[] arguments(Method method, boolean tame) {
        String name = method.getName();
        Class<?>[] types = method.getParameterTypes();
        boolean ofRow = types.length > 0 && types[0] == char.class;
        Object[] arguments = new Object[types.length];
        for (int place = 0; place < types.length; place++) {
            if (types[place] == char.class) {
                arguments[place] = drawSign(name, place, tame);
            } else if (types[place] == long.class) {
                arguments[place] = drawNumber();
            } else if (!tame && draw(8) == 0) {
                arguments[place] = WILD[draw(WILD.length)];
            } else {
                arguments[place] = drawInt(name, place, ofRow);
            }
        }
        return arguments;
    }

    private static char drawSign(String name, int place, boolean tame) {
        if (!tame && draw(10) == 0) {
            return "xIpt\u0000\uffffnh".charAt(draw(8));
        }
        String signs = name.equals("has") ? "osuia" : name.equals("fold") && place == 3 ? "sxhf" : "ilo";
        return signs.charAt(draw(signs.length()));
    }

    private static long drawNumber() {
        return draw(3) == 0 ? NUMBERS[draw(NUMBERS.length)] : draw(2001) - 1000;
    }

    private static int drawInt(String name, int place, boolean ofRow) {
        if (name.equals("lay") && place == 2) {
            return draw(3) == 0 ? 48 : draw(49);
        }
        if (ofRow && place == 2) {
            return 1 + draw(draw(2) == 0 ? 8 : 48);
        }
        if (ofRow || place == 2) {
            return draw(4);
        }
        if (place == 0) {
            lastBench = draw(6);
            return lastBench;
        }
        if (place == 1) {
            return name.equals("crumble") ? 1 + draw(12) : draw(library.items(lastBench) + (draw(8) == 0 ? 2 : 0));
        }
        return place == 3 ? draw(12) : draw(49);
    }

    private static int draw(int below) {
        drawn = drawn * 6364136223846793005L + 1442695040888963407L;
        return below < 1 ? 0 : (int) ((drawn >>> 33) % below);
    }
}
