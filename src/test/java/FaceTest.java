import java.io.IOException;
import java.lang.reflect.Constructor;
import java.lang.reflect.Field;
import java.lang.reflect.Method;
import java.lang.reflect.Modifier;
import java.nio.file.Files;
import java.nio.file.Path;
import java.util.ArrayList;
import java.util.Arrays;
import java.util.Collections;
import java.util.List;
import java.util.TreeSet;
import java.util.regex.Matcher;
import java.util.regex.Pattern;

/** The face of the document, and the rules of LANGUAGE.md that can be told from the class or its text. */
public final class FaceTest {
    private static final String ARGUMENT = "IllegalArgumentException";
    private static final String INDEX = "IndexOutOfBoundsException";
    private static final String STATE = "IllegalStateException";
    private static final String ARITHMETIC = "ArithmeticException";
    private static final String UNSUPPORTED = "UnsupportedOperationException";
    private static final List<String> FACE = List.of(
            "int append(char,int,long) throws " + ARGUMENT + "," + INDEX + "," + STATE,
            "int lay(char,int,int,long,long) throws " + ARGUMENT + "," + INDEX,
            "int turn(char,int) throws " + ARGUMENT + "," + INDEX,
            "int length(char,int) throws " + ARGUMENT + "," + INDEX,
            "long number(char,int,int) throws " + ARGUMENT + "," + INDEX,
            "int open(int,char,int,int,int) throws " + ARGUMENT + "," + INDEX,
            "int openAll(int,char,int) throws " + ARGUMENT + "," + INDEX,
            "int items(int) throws " + INDEX,
            "char kindOf(int,int) throws " + INDEX,
            "long given(int,int) throws " + INDEX + "," + STATE,
            "int left(int,int) throws " + INDEX + "," + STATE,
            "int ahead(int,int) throws " + INDEX,
            "boolean has(int,int,char) throws " + INDEX + "," + STATE + "," + ARGUMENT,
            "boolean isExact(int,int) throws " + INDEX + "," + STATE,
            "int split(int,int) throws " + INDEX + "," + STATE,
            "boolean step(int,int) throws " + INDEX + "," + STATE,
            "int drain(int,int) throws " + INDEX + "," + STATE,
            "int iterate(int,int) throws " + INDEX + "," + STATE + "," + UNSUPPORTED,
            "boolean hasNext(int,int) throws " + INDEX + "," + STATE,
            "int crumble(int,int) throws " + INDEX + "," + ARGUMENT,
            "int sweep(int) throws " + INDEX,
            "boolean isRead(int) throws " + INDEX,
            "long fold(char,int,int,char) throws " + ARGUMENT + "," + INDEX,
            "int pieces(char,int,int) throws " + ARGUMENT + "," + INDEX,
            "float share(int) throws " + INDEX + "," + ARITHMETIC,
            "double meanLeft(int) throws " + INDEX + "," + ARITHMETIC,
            "long checksum()",
            "boolean isSound()");
    private static final List<String> BARRED = List.of("package ", "->", "::", "synchronized", "assert ", "finally",
            "Exact(", "hashCode", "static {", "System.out", "currentTimeMillis", "nanoTime", "random");
    private static final String THROWN = "throw new (IllegalState|IllegalArgument|IndexOutOfBounds|Arithmetic"
            + "|UnsupportedOperation|NoSuchElement|Runtime)Exception"
            + "\\((\"[^\"]*\")?\\);";
    private static final Check CHECK = new Check("FaceTest");

    public static void main(String[] args) throws IOException {
        publicMethods();
        constructorsAndFields();
        namesOfPrivateMethods();
        classesInside();
        sizes();
        String text = Files.readString(Path.of(args[0]));
        exceptionsThrown(text);
        words(text);
        CHECK.end();
    }

    private static void publicMethods() {
        CHECK.of("the public face, its methods, with the exceptions in the document's sequence");
        List<String> found = new ArrayList<>();
        for (Method method : Splityard.class.getDeclaredMethods()) {
            if (!Modifier.isPrivate(method.getModifiers())) {
                found.add(described(method));
            }
        }
        CHECK.same("the methods of the face", sorted(FACE), sorted(found));
        CHECK.same("public final", true, Modifier.isPublic(Splityard.class.getModifiers())
                && Modifier.isFinal(Splityard.class.getModifiers()));
    }

    private static String described(Method method) {
        StringBuilder types = new StringBuilder();
        for (Class<?> type : method.getParameterTypes()) {
            types.append(types.length() == 0 ? "" : ",").append(type.getName());
        }
        StringBuilder thrown = new StringBuilder();
        for (Class<?> exception : method.getExceptionTypes()) {
            thrown.append(thrown.length() == 0 ? " throws " : ",").append(exception.getSimpleName());
        }
        boolean plain = Modifier.isPublic(method.getModifiers()) && !Modifier.isStatic(method.getModifiers());
        return (plain ? "" : "not plainly public: ") + method.getReturnType().getName() + " " + method.getName()
                + "(" + types + ")" + thrown;
    }

    private static void constructorsAndFields() {
        CHECK.of("the public face, its constructor and no other member");
        Constructor<?>[] constructors = Splityard.class.getDeclaredConstructors();
        CHECK.same("one constructor", 1, constructors.length);
        CHECK.same("it is public, without arguments", true,
                Modifier.isPublic(constructors[0].getModifiers()) && constructors[0].getParameterCount() == 0);
        for (Field field : Splityard.class.getDeclaredFields()) {
            CHECK.same(field.getName() + " is private", true, Modifier.isPrivate(field.getModifiers()));
        }
    }

    private static void namesOfPrivateMethods() {
        CHECK.of("rule 1 of LANGUAGE.md, no private method bears the name of a public one");
        TreeSet<String> names = new TreeSet<>();
        for (Method method : Splityard.class.getMethods()) {
            names.add(method.getName());
        }
        for (Class<?> inside : allClasses()) {
            for (Method method : inside.getDeclaredMethods()) {
                boolean fine = Modifier.isPublic(method.getModifiers()) || !names.contains(method.getName());
                CHECK.same(method.getName() + " bears no name of a public method", true, fine);
            }
        }
    }

    private static List<Class<?>> allClasses() {
        List<Class<?>> classes = new ArrayList<>(List.of(Splityard.class.getDeclaredClasses()));
        classes.add(Splityard.class);
        return classes;
    }

    private static void classesInside() {
        CHECK.of("rules 1, 2 and 5 of LANGUAGE.md, the classes inside");
        for (Class<?> inside : Splityard.class.getDeclaredClasses()) {
            CHECK.same(inside.getName() + " is static", true, Modifier.isStatic(inside.getModifiers()));
            CHECK.same(inside.getName() + " is not public", false, Modifier.isPublic(inside.getModifiers()));
            for (Field field : inside.getDeclaredFields()) {
                boolean fine = !Modifier.isStatic(field.getModifiers()) || Modifier.isFinal(field.getModifiers());
                CHECK.same(field.getName() + " is no changing static field", true, fine);
            }
        }
    }

    private static void sizes() {
        CHECK.of("rule 11 of LANGUAGE.md, twelve classes, twenty fields beside constants, seven parameters");
        CHECK.same("at most twelve classes", true, allClasses().size() <= 12);
        for (Class<?> inside : allClasses()) {
            long fields = Arrays.stream(inside.getDeclaredFields())
                    .filter(field -> !Modifier.isStatic(field.getModifiers())).count();
            CHECK.same("fields of " + inside.getName() + " are at most twenty", true, fields <= 20);
            for (Method method : inside.getDeclaredMethods()) {
                CHECK.same("parameters of " + method.getName() + " are at most seven", true,
                        method.getParameterCount() <= 7);
            }
        }
    }

    private static void exceptionsThrown(String text) {
        CHECK.of("rule 6 of LANGUAGE.md, throw new E() or throw new E with a written text, of seven classes");
        Matcher throwing = Pattern.compile("\\bthrow\\b[^;]*;").matcher(text);
        while (throwing.find()) {
            CHECK.same(throwing.group(), true, throwing.group().matches(THROWN));
        }
    }

    private static void words(String text) {
        CHECK.of("rules 3 to 13 of LANGUAGE.md, words that they bar");
        for (String word : BARRED) {
            CHECK.same("'" + word + "' in the program", -1, text.replace("isExact(", "").indexOf(word));
        }
        CHECK.same("signs above 127", true, text.chars().allMatch(sign -> sign < 128));
    }

    private static List<String> sorted(List<String> lines) {
        List<String> sorted = new ArrayList<>(lines);
        Collections.sort(sorted);
        return sorted;
    }
}
