import java.io.IOException;
import java.lang.reflect.Constructor;
import java.lang.reflect.Field;
import java.lang.reflect.Method;
import java.lang.reflect.Modifier;
import java.nio.file.Files;
import java.nio.file.Path;
import java.util.List;
import java.util.Set;
import java.util.TreeSet;

/** The face is the document's, to the word, and the source keeps clear of what LANGUAGE.md leaves out. */
public final class FaceTest {
    private static final String BOUNDS = " throws IndexOutOfBoundsException";
    private static final String ARGUMENT = ",IllegalArgumentException";
    private static final String STATE = ",IllegalStateException";

    private static final Set<String> DUE = Set.of(
            "int wire(int,int,int,int,int)" + BOUNDS + ARGUMENT + STATE,
            "int free(int,int)" + BOUNDS + STATE,
            "int house(int,int,int)" + BOUNDS + STATE,
            "int rank(int,int)" + BOUNDS + ARGUMENT,
            "boolean shut(int,int)" + BOUNDS,
            "int guard(int,int,int)" + BOUNDS + ARGUMENT,
            "void plain(int,int,int)" + BOUNDS,
            "void trunk(int,int,int,int)" + BOUNDS + ARGUMENT,
            "int limit(int) throws IllegalArgumentException",
            "int beat(int) throws IllegalArgumentException",
            "int send(int,int,int,int)" + BOUNDS + ARGUMENT + STATE,
            "int holds(int,int)" + BOUNDS + ARGUMENT,
            "int port(int,int,int)" + BOUNDS + ARGUMENT,
            "int table(int,int,int)" + BOUNDS,
            "int got(int,boolean)" + BOUNDS,
            "boolean isAtRest()",
            "int found(int)" + BOUNDS,
            "int walk(int,int)" + BOUNDS + ARGUMENT + STATE);

    private static final List<String> LEFT_OUT = List.of("import ", "package ", "->", "::", "finally", "synchronized",
            "assert ", "record ", "instanceof", "catch", "try ", "System.", "Math.random", "toString", "hashCode");

    public static void main(String[] args) throws IOException {
        classIsAsDue();
        membersAreAsDue();
        insideIsHidden();
        sourceIsInTheLanguage();
        Check.end();
    }

    private static void classIsAsDue() {
        Check.part("class");
        int bits = SwitchFloor.class.getModifiers();
        Check.is("public", true, Modifier.isPublic(bits));
        Check.is("final", true, Modifier.isFinal(bits));
        Check.is("NONE", -1, SwitchFloor.NONE);
        Check.is("ALL", 10, SwitchFloor.ALL);
        Constructor<?>[] made = SwitchFloor.class.getDeclaredConstructors();
        Check.is("constructors", 1, made.length);
        Check.is("public constructor", true, Modifier.isPublic(made[0].getModifiers()));
        Check.is("its arguments", 0, made[0].getParameterCount());
    }

    private static void membersAreAsDue() {
        Check.part("face");
        Set<String> found = new TreeSet<>();
        for (Method method : SwitchFloor.class.getDeclaredMethods()) {
            if (!Modifier.isPrivate(method.getModifiers()) && !method.isSynthetic()) {
                Check.is(method.getName() + " is public", true, Modifier.isPublic(method.getModifiers()));
                found.add(faceOf(method));
            }
        }
        for (String due : DUE) {
            Check.is(due, true, found.contains(due));
        }
        for (String one : found) {
            Check.is(one, true, DUE.contains(one));
        }
        for (Field field : SwitchFloor.class.getDeclaredFields()) {
            boolean constant = field.getName().equals("NONE") || field.getName().equals("ALL");
            Check.is(field.getName() + " is private", !constant, Modifier.isPrivate(field.getModifiers()));
            Check.is(field.getName() + " is public", constant, Modifier.isPublic(field.getModifiers()));
            if (Modifier.isStatic(field.getModifiers())) {
                Check.is(field.getName() + " is final", true, Modifier.isFinal(field.getModifiers()));
            }
        }
    }

    private static String faceOf(Method method) {
        StringBuilder text = new StringBuilder(method.getReturnType().getSimpleName());
        text.append(' ').append(method.getName()).append('(').append(joined(method.getParameterTypes())).append(')');
        if (method.getExceptionTypes().length > 0) {
            text.append(" throws ").append(joined(method.getExceptionTypes()));
        }
        return text.toString();
    }

    private static String joined(Class<?>[] types) {
        StringBuilder text = new StringBuilder();
        for (Class<?> type : types) {
            text.append(text.length() == 0 ? "" : ",").append(type.getSimpleName());
        }
        return text.toString();
    }

    private static void insideIsHidden() {
        Check.part("inside");
        for (Class<?> inside : SwitchFloor.class.getDeclaredClasses()) {
            int bits = inside.getModifiers();
            Check.is(inside.getName() + " hidden", false, Modifier.isPublic(bits) || Modifier.isProtected(bits));
            Check.is(inside.getName() + " static", true, Modifier.isStatic(bits));
            for (Method method : inside.getDeclaredMethods()) {
                boolean taken = DUE.stream().anyMatch(due -> due.contains(" " + method.getName() + "("));
                Check.is(inside.getName() + "." + method.getName() + " bears a public name", false, taken);
            }
        }
    }

    private static void sourceIsInTheLanguage() throws IOException {
        Check.part("language");
        String source = Files.readString(Path.of("src/main/java/SwitchFloor.java"));
        for (String word : LEFT_OUT) {
            Check.is("'" + word + "' stands in the source", false, source.contains(word));
        }
        Check.is("all signs are plain", true, source.chars().allMatch(sign -> sign < 128));
    }
}
