import java.io.IOException;
import java.lang.reflect.Constructor;
import java.lang.reflect.Field;
import java.lang.reflect.Method;
import java.lang.reflect.Modifier;
import java.nio.file.Files;
import java.nio.file.Path;
import java.util.Set;
import java.util.TreeSet;

/** The face is the document's, to the word, and what is inside is hidden. */
public final class FaceTest {
    private static final String BOUNDS = " throws IndexOutOfBoundsException";
    private static final String ARGUMENT = ",IllegalArgumentException";
    private static final String STATE = ",IllegalStateException";

    private static final Set<String> DUE = Set.of(
            "int wire(int,int,int,int,int)" + BOUNDS + ARGUMENT + STATE,
            "int free(int,int)" + BOUNDS + STATE,
            "int house(int,int,int)" + BOUNDS + STATE,
            "int rank(int,int)" + BOUNDS + ARGUMENT,
            "boolean shut(int,int)" + BOUNDS,
            "int guard(int,int,int)" + BOUNDS + ARGUMENT,
            "void plain(int,int,int)" + BOUNDS,
            "void trunk(int,int,int,int)" + BOUNDS + ARGUMENT,
            "int limit(int) throws IllegalArgumentException",
            "int beat(int) throws IllegalArgumentException",
            "int send(int,int,int,int)" + BOUNDS + ARGUMENT + STATE,
            "int holds(int,int)" + BOUNDS + ARGUMENT,
            "int port(int,int,int)" + BOUNDS + ARGUMENT,
            "int table(int,int,int)" + BOUNDS,
            "int got(int,boolean)" + BOUNDS,
            "boolean isAtRest()",
            "int found(int)" + BOUNDS,
            "int walk(int,int)" + BOUNDS + ARGUMENT + STATE);

    public static void main(String[] args) throws IOException {
        classIsAsDue();
        membersAreAsDue();
        linesAreAsWritten();
        insideIsHidden();
        Check.end();
    }

    private static void classIsAsDue() {
        Check.part("class");
        int bits = SwitchFloor.class.getModifiers();
        Check.is("public", true, Modifier.isPublic(bits));
        Check.is("final", true, Modifier.isFinal(bits));
        Check.is("NONE", -1, SwitchFloor.NONE);
        Check.is("ALL", 10, SwitchFloor.ALL);
        Constructor<?>[] made = SwitchFloor.class.getDeclaredConstructors();
        Check.is("constructors", 1, made.length);
        Check.is("public constructor", true, Modifier.isPublic(made[0].getModifiers()));
        Check.is("its arguments", 0, made[0].getParameterCount());
    }

    private static void membersAreAsDue() {
        Check.part("face");
        Set<String> found = new TreeSet<>();
        for (Method method : SwitchFloor.class.getDeclaredMethods()) {
            if (Modifier.isPrivate(method.getModifiers())) {
                Check.is(method.getName() + " bears a public name", false, isPublicName(method.getName()));
            } else if (!method.isSynthetic()) {
                Check.is(method.getName() + " is public", true, Modifier.isPublic(method.getModifiers()));
                found.add(faceOf(method));
            }
        }
        for (String due : DUE) {
            Check.is(due, true, found.contains(due));
        }
        for (String one : found) {
            Check.is(one, true, DUE.contains(one));
        }
        for (Field field : SwitchFloor.class.getDeclaredFields()) {
            boolean constant = field.getName().equals("NONE") || field.getName().equals("ALL");
            Check.is(field.getName() + " is private", !constant, Modifier.isPrivate(field.getModifiers()));
            Check.is(field.getName() + " is public", constant, Modifier.isPublic(field.getModifiers()));
            if (Modifier.isStatic(field.getModifiers())) {
                Check.is(field.getName() + " is final", true, Modifier.isFinal(field.getModifiers()));
            }
        }
    }

    private static boolean isPublicName(String name) {
        return DUE.stream().anyMatch(due -> due.contains(" " + name + "("));
    }

    /** Each line of the document's face stands in the source, with the names of its arguments. */
    private static void linesAreAsWritten() throws IOException {
        Check.part("lines");
        String source = Files.readString(Path.of("src/main/java/SwitchFloor.java")).replaceAll("\\s+", " ");
        int lines = 0;
        for (String line : Doc.face()) {
            lines++;
            String due = line.endsWith(");") || line.contains(" throws ") ? line.replace(";", " {") : line;
            Check.is("'" + due + "' stands in the source", true, source.contains(due));
        }
        Check.is("lines of the face", 22, lines);
    }

    private static String faceOf(Method method) {
        StringBuilder text = new StringBuilder(method.getReturnType().getSimpleName());
        text.append(' ').append(method.getName()).append('(').append(joined(method.getParameterTypes())).append(')');
        if (method.getExceptionTypes().length > 0) {
            text.append(" throws ").append(joined(method.getExceptionTypes()));
        }
        return text.toString();
    }

    private static String joined(Class<?>[] types) {
        StringBuilder text = new StringBuilder();
        for (Class<?> type : types) {
            text.append(text.length() == 0 ? "" : ",").append(type.getSimpleName());
        }
        return text.toString();
    }

    private static void insideIsHidden() {
        Check.part("inside");
        for (Class<?> inside : SwitchFloor.class.getDeclaredClasses()) {
            int bits = inside.getModifiers();
            Check.is(inside.getName() + " hidden", false, Modifier.isPublic(bits) || Modifier.isProtected(bits));
            Check.is(inside.getName() + " static", true, Modifier.isStatic(bits));
            for (Method method : inside.getDeclaredMethods()) {
                String name = inside.getName() + "." + method.getName();
                Check.is(name + " bears a public name", false, isPublicName(method.getName()));
            }
        }
    }
}
