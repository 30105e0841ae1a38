import java.io.IOException;
import java.lang.reflect.Constructor;
import java.lang.reflect.Field;
import java.lang.reflect.Method;
import java.lang.reflect.Modifier;
import java.nio.file.Files;
import java.nio.file.Path;
import java.util.ArrayList;
import java.util.Collections;
import java.util.List;
import java.util.TreeSet;

/** The face of the document, and the rules of LANGUAGE.md that can be told from the class or its text. */
public final class FaceTest {
    private static final List<String> FACE = List.of(
            "int append(char,int,long)",
            "int lay(char,int,int,long,long)",
            "int turn(char,int)",
            "int length(char,int)",
            "long number(char,int,int)",
            "int open(int,char,int,int,int)",
            "int openAll(int,char,int)",
            "int items(int)",
            "char kindOf(int,int)",
            "long given(int,int)",
            "int left(int,int)",
            "int ahead(int,int)",
            "boolean has(int,int,char)",
            "boolean isExact(int,int)",
            "int split(int,int)",
            "boolean step(int,int)",
            "int drain(int,int)",
            "int iterate(int,int)",
            "boolean hasNext(int,int)",
            "int crumble(int,int)",
            "int sweep(int)",
            "boolean isRead(int)",
            "long fold(char,int,int,char)",
            "int pieces(char,int,int)",
            "float share(int)",
            "double meanLeft(int)",
            "long checksum()",
            "boolean isSound()");
    private static final List<String> BARRED = List.of("package ", "->", "::", "synchronized", "assert ", "finally",
            "Exact(", "hashCode", "static {", "System.out", "currentTimeMillis", "nanoTime", "random");
    private static final Check CHECK = new Check("FaceTest");

    public static void main(String[] args) throws IOException {
        publicMethods();
        constructorsAndFields();
        namesOfPrivateMethods();
        classesInside();
        words(Files.readString(Path.of(args[0])));
        CHECK.end();
    }

    private static void publicMethods() {
        CHECK.of("the public face, its methods");
        List<String> found = new ArrayList<>();
        for (Method method : Splityard.class.getDeclaredMethods()) {
            if (!Modifier.isPrivate(method.getModifiers())) {
                found.add(described(method));
            }
        }
        CHECK.same("the methods of the face", sorted(FACE), sorted(found));
        CHECK.same("public final", true, Modifier.isPublic(Splityard.class.getModifiers())
                && Modifier.isFinal(Splityard.class.getModifiers()));
    }

    private static String described(Method method) {
        StringBuilder types = new StringBuilder();
        for (Class<?> type : method.getParameterTypes()) {
            types.append(types.length() == 0 ? "" : ",").append(type.getName());
        }
        boolean plain = Modifier.isPublic(method.getModifiers()) && !Modifier.isStatic(method.getModifiers());
        return (plain ? "" : "not plainly public: ") + method.getReturnType().getName() + " " + method.getName()
                + "(" + types + ")";
    }

    private static void constructorsAndFields() {
        CHECK.of("the public face, its constructor and no other member");
        Constructor<?>[] constructors = Splityard.class.getDeclaredConstructors();
        CHECK.same("one constructor", 1, constructors.length);
        CHECK.same("it is public, without arguments", true,
                Modifier.isPublic(constructors[0].getModifiers()) && constructors[0].getParameterCount() == 0);
        for (Field field : Splityard.class.getDeclaredFields()) {
            CHECK.same(field.getName() + " is private", true, Modifier.isPrivate(field.getModifiers()));
        }
    }

    private static void namesOfPrivateMethods() {
        CHECK.of("rule 1 of LANGUAGE.md, no private method bears the name of a public one");
        TreeSet<String> names = new TreeSet<>();
        for (Method method : Splityard.class.getMethods()) {
            names.add(method.getName());
        }
        List<Class<?>> classes = new ArrayList<>(List.of(Splityard.class.getDeclaredClasses()));
        classes.add(Splityard.class);
        for (Class<?> inside : classes) {
            for (Method method : inside.getDeclaredMethods()) {
                boolean fine = Modifier.isPublic(method.getModifiers()) || !names.contains(method.getName());
                CHECK.same(method.getName() + " bears no name of a public method", true, fine);
            }
        }
    }

    private static void classesInside() {
        CHECK.of("rules 1, 2 and 5 of LANGUAGE.md, the classes inside");
        for (Class<?> inside : Splityard.class.getDeclaredClasses()) {
            CHECK.same(inside.getName() + " is static", true, Modifier.isStatic(inside.getModifiers()));
            CHECK.same(inside.getName() + " is not public", false, Modifier.isPublic(inside.getModifiers()));
            for (Field field : inside.getDeclaredFields()) {
                boolean fine = !Modifier.isStatic(field.getModifiers()) || Modifier.isFinal(field.getModifiers());
                CHECK.same(field.getName() + " is no changing static field", true, fine);
            }
        }
    }

    private static void words(String text) {
        CHECK.of("rules 3 to 13 of LANGUAGE.md, words that they bar");
        for (String word : BARRED) {
            CHECK.same("'" + word + "' in the program", -1, text.replace("isExact(", "").indexOf(word));
        }
        CHECK.same("signs above 127", true, text.chars().allMatch(sign -> sign < 128));
    }

    private static List<String> sorted(List<String> lines) {
        List<String> sorted = new ArrayList<>(lines);
        Collections.sort(sorted);
        return sorted;
    }
}
