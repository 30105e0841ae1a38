import java.io.IOException;
import java.lang.reflect.Method;
import java.net.URL;
import java.net.URLClassLoader;
import java.nio.file.Files;
import java.nio.file.Path;
import javax.tools.ToolProvider;

/**
 * A copy of the program with faults written into its text that no call and no field can plant. Each of them sleeps
 * until a system property names it, so that one copy serves for all.
 */
final class BrokenCopy implements AutoCloseable {
    static final String WRONG_FOLD = "splityard.wrong.fold";
    static final String WRONG_PIECES = "splityard.wrong.pieces";
    static final String LACKING = "splityard.lacking";

    private static final String[] SOUND = {
        "return join(row, how, first, other, to - middle);",
        "return spare.count;",
        "whats[item] == PIECE ? ALL_FOUR : 0;"
    };
    private static final String[] BROKEN = {
        "return join(row, how, first, other, to - middle)"
                + " + (Integer.getInteger(\"" + WRONG_FOLD + "\", 0) == 1000 * most + how ? 1 : 0);",
        "return spare.count"
                + " + (spare.count > 1 && Integer.getInteger(\"" + WRONG_PIECES + "\", 0) == most ? 1 : 0);",
        "whats[item] == PIECE ? ALL_FOUR & ~Integer.getInteger(\"" + LACKING + "\", 0) : 0;"
    };

    private final URLClassLoader loader;
    private final Class<?> broken;

    BrokenCopy(Path program) throws IOException, ReflectiveOperationException {
        Path folder = Files.createTempDirectory("broken");
        Path source = folder.resolve("Splityard.java");
        Files.writeString(source, withFaults(Files.readString(program)));
        int result = ToolProvider.getSystemJavaCompiler().run(null, null, null, "-d", folder.toString(),
                source.toString());
        if (result != 0) {
            throw new IllegalStateException("the broken copy does not compile");
        }
        // Without a parent, so that the program itself is not found ahead of its copy.
        loader = new URLClassLoader(new URL[] {folder.toUri().toURL()}, null);
        broken = loader.loadClass("Splityard");
    }

    /** The number by which the property WRONG_FOLD names a fold in pieces of at most so many. */
    static int fold(int most, char how) {
        return 1000 * most + how;
    }

    private static String withFaults(String text) {
        String faulty = text;
        for (int fault = 0; fault < SOUND.length; fault++) {
            int place = faulty.indexOf(SOUND[fault]);
            if (place < 0 || place != faulty.lastIndexOf(SOUND[fault])) {
                throw new IllegalStateException("the program has not just once: " + SOUND[fault]);
            }
            faulty = faulty.replace(SOUND[fault], BROKEN[fault]);
        }
        return faulty;
    }

    /** Another object, since the copy's class is not the one that the tests are compiled with. */
    Object make() throws ReflectiveOperationException {
        return broken.getDeclaredConstructor().newInstance();
    }

    Object call(Object yard, String name, Object... arguments) throws ReflectiveOperationException {
        for (Method method : broken.getMethods()) {
            if (method.getName().equals(name)) {
                return method.invoke(yard, arguments);
            }
        }
        throw new NoSuchMethodException(name);
    }

    /** What isSound() answers with a fault awake. */
    Object isSoundWith(String property, int fault, Object yard) throws ReflectiveOperationException {
        System.setProperty(property, String.valueOf(fault));
        try {
            return call(yard, "isSound");
        } finally {
            System.clearProperty(property);
        }
    }

    @Override
    public void close() throws IOException {
        loader.close();
    }
}
