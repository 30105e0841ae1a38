import java.io.IOException;
import java.lang.reflect.Method;
import java.nio.file.Files;
import java.nio.file.Path;
import java.util.ArrayList;
import java.util.List;
import java.util.TreeSet;
import java.util.regex.Matcher;
import java.util.regex.Pattern;
import java.util.stream.Stream;

/** What README.md says of the class and of its tests, so that it stays true of both. */
public final class ReadmeTest {
    private static final Path TESTS = Path.of("src/test/java");
    private static final int PROMISES = 29;
    private static final Check CHECK = new Check("ReadmeTest");

    public static void main(String[] args) throws IOException {
        String readme = Files.readString(Path.of("README.md"));
        example(readme);
        calls(readme);
        tests(readme);
        CHECK.end();
    }

    private static void example(String readme) {
        CHECK.of("the example, whose every call answers what stands behind it");
        String code = readme.substring(readme.indexOf("```java"), readme.lastIndexOf("```"));
        Matcher line = Pattern.compile("yard\\.(\\w+)\\((.*)\\); +// ([^;,\n]+)[^;\n]*(; bench (\\d): (.+))?").matcher(code);
        Splityard yard = new Splityard();
        int lines = 0;
        while (line.find()) {
            String call = line.group(1) + "(" + line.group(2) + ")";
            CHECK.same(call, line.group(3), answer(yard, line.group(1), line.group(2)));
            if (line.group(5) != null) {
                CHECK.same("the bench behind " + call, line.group(6),
                        Picture.bench(yard, Integer.parseInt(line.group(5))));
            }
            lines++;
        }
        CHECK.same("the calls of the example", code.split("yard\\.", -1).length - 1, lines);
    }

    private static String answer(Splityard yard, String name, String arguments) {
        Method method = method(name);
        Object answer = Check.answer(yard, asked -> {
            try {
                return method.invoke(asked, parsed(method, arguments));
            } catch (java.lang.reflect.InvocationTargetException thrown) {
                throw (RuntimeException) thrown.getCause();
            } catch (IllegalAccessException hidden) {
                throw new IllegalStateException("no public method", hidden);
            }
        });
        return answer.toString().replace("throws java.lang.", "throws ");
    }

    private static Method method(String name) {
        for (Method method : Splityard.class.getDeclaredMethods()) {
            if (method.getName().equals(name)) {
                return method;
            }
        }
        throw new IllegalStateException("no method " + name);
    }

    private static Object[] parsed(Method method, String arguments) {
        Class<?>[] types = method.getParameterTypes();
        String[] texts = arguments.isEmpty() ? new String[0] : arguments.split(", ");
        Object[] parsed = new Object[texts.length];
        for (int place = 0; place < texts.length; place++) {
            if (types[place] == char.class) {
                parsed[place] = texts[place].charAt(1);
            } else if (types[place] == long.class) {
                parsed[place] = Long.parseLong(texts[place]);
            } else {
                parsed[place] = Integer.parseInt(texts[place]);
            }
        }
        return parsed;
    }

    private static void calls(String readme) {
        CHECK.of("the calls, each by the number of its promise, with as many arguments as it takes");
        Matcher line = Pattern.compile("\n\\| (\\d+) \\| `(\\w+)\\((.*?)\\)` \\|").matcher(readme);
        TreeSet<String> told = new TreeSet<>();
        int promise = 0;
        while (line.find()) {
            promise++;
            CHECK.same("the number of " + line.group(2), String.valueOf(promise), line.group(1));
            if (promise > 1) {
                told.add(line.group(2));
                int arguments = line.group(3).isEmpty() ? 0 : line.group(3).split(", ").length;
                CHECK.same("the arguments of " + line.group(2), method(line.group(2)).getParameterCount(), arguments);
            }
        }
        CHECK.same("how many calls", PROMISES, promise);
        CHECK.same("how many of them are different methods", PROMISES - 1, told.size());
    }

    private static void tests(String readme) throws IOException {
        CHECK.of("the tests, all of them, and what they share");
        List<String> files = new ArrayList<>();
        try (Stream<Path> found = Files.list(TESTS)) {
            found.forEach(file -> files.add(file.getFileName().toString().replace(".java", "")));
        }
        for (String file : files) {
            boolean isListed = readme.contains(file.endsWith("Test") ? "\n| `" + file + "` |" : "`" + file + "`");
            CHECK.same("whether README.md tells of " + file, true, isListed);
        }
        Matcher named = Pattern.compile("\n\\| `(\\w+Test)` \\|").matcher(readme);
        while (named.find()) {
            CHECK.same("whether there is " + named.group(1), true, files.contains(named.group(1)));
        }
    }
}
