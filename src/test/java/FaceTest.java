import java.io.IOException;
import java.lang.reflect.Constructor;
import java.lang.reflect.Field;
import java.lang.reflect.Method;
import java.lang.reflect.Modifier;
import java.nio.file.Files;
import java.nio.file.Path;
import java.util.Arrays;
import java.util.TreeSet;
import java.util.stream.Collectors;

/** The document's public face, and the rules of the language that can be seen from outside. */
public final class FaceTest {
    private static final String[] FACE = {
        "void sign(int) IllegalArgumentException UnsupportedOperationException",
        "int read(int) IllegalArgumentException UnsupportedOperationException",
        "int today(int) IllegalArgumentException",
        "int fits(int,int,int,int) IllegalArgumentException IllegalStateException",
        "int at(int)",
        "int price(int,int) NoSuchElementException IllegalArgumentException IllegalStateException",
        "int zone(int) IllegalArgumentException IllegalStateException",
        "boolean hours(int,int) NoSuchElementException IllegalArgumentException IllegalStateException",
        "int label(int,int) NoSuchElementException IllegalArgumentException IllegalStateException",
        "int print(int,int) NoSuchElementException",
        "int out(int) IllegalArgumentException",
        "void number(int) IllegalArgumentException UnsupportedOperationException",
        "int track() IllegalStateException",
        "int told(int,int) NoSuchElementException IllegalArgumentException",
        "int count(int)",
    };

    public static void main(String[] args) throws IOException {
        face();
        nothingElse();
        source();
        Due.end();
    }

    private static String names(Class<?>[] classes, String between) {
        return Arrays.stream(classes).map(Class::getSimpleName).collect(Collectors.joining(between));
    }

    private static String told(Method m) {
        String line = m.getReturnType().getSimpleName() + " " + m.getName() + "("
                + names(m.getParameterTypes(), ",") + ") " + names(m.getExceptionTypes(), " ");
        return line.trim();
    }

    private static void face() {
        TreeSet<String> found = new TreeSet<>();
        for (Method m : CarrierText.class.getDeclaredMethods()) {
            if (!Modifier.isPrivate(m.getModifiers())) {
                found.add((Modifier.isPublic(m.getModifiers()) ? "" : "hidden ") + told(m));
            }
        }
        Due.is("methods", new TreeSet<>(Arrays.asList(FACE)).toString(), found.toString());
        Due.is("the class", "public final", Modifier.toString(CarrierText.class.getModifiers()));
        Constructor<?>[] constructors = CarrierText.class.getDeclaredConstructors();
        Due.is("constructors", 1, () -> constructors.length);
        Due.is("its parameters", 0, () -> constructors[0].getParameterCount());
        Due.is("the constructor", "public", Modifier.toString(constructors[0].getModifiers()));
    }

    private static void nothingElse() {
        for (Field f : CarrierText.class.getDeclaredFields()) {
            Due.is("field " + f.getName() + " is private", "true", "" + Modifier.isPrivate(f.getModifiers()));
        }
        TreeSet<String> face = new TreeSet<>();
        for (Method m : CarrierText.class.getMethods()) {
            face.add(m.getName());
        }
        for (Method m : CarrierText.class.getDeclaredMethods()) {
            if (Modifier.isPrivate(m.getModifiers())) {
                Due.is("private " + m.getName() + " bears a public name", "false", "" + face.contains(m.getName()));
            }
        }
        for (Class<?> inside : CarrierText.class.getDeclaredClasses()) {
            Due.is("class " + inside.getSimpleName() + " is static", "true",
                    "" + Modifier.isStatic(inside.getModifiers()));
            for (Method m : inside.getDeclaredMethods()) {
                Due.is("inner " + m.getName() + " bears a public name", "false", "" + face.contains(m.getName()));
            }
        }
    }

    private static void source() throws IOException {
        String text = Files.readString(Path.of("src/main/java/CarrierText.java"));
        String imports = text.lines().filter(l -> l.startsWith("import")).collect(Collectors.joining());
        Due.is("imports", "import java.util.NoSuchElementException;", imports);
        String[] ruledOut = {"catch", "finally", "assert ", "synchronized", "->", "::", "instanceof", "Exact("};
        for (String word : ruledOut) {
            Due.is("the source uses " + word, "false", "" + text.contains(word));
        }
    }
}
