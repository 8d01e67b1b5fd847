import java.io.IOException;
import java.lang.reflect.Field;
import java.lang.reflect.Method;
import java.lang.reflect.Modifier;
import java.nio.file.Files;
import java.nio.file.Path;
import java.util.ArrayDeque;
import java.util.ArrayList;
import java.util.Arrays;
import java.util.Deque;
import java.util.List;
import java.util.Set;
import java.util.regex.Matcher;
import java.util.regex.Pattern;

/** What of LANGUAGE.md, and of the rule that calls make no objects, can be read off the source and the class. */
public final class LanguageTest {
    private static final Path SOURCE = Path.of("src/main/java/SwitchFloor.java");

    /** The program does without all of these, also without some that the language would let it have. */
    private static final Set<String> LEFT_OUT = Set.of("import", "package", "finally", "synchronized", "assert",
            "record", "instanceof", "catch", "try", "System", "Math", "Arrays", "toString", "hashCode", "equals",
            "volatile", "transient", "native", "strictfp", "while", "do", "protected", "double", "float", "var");
    private static final Set<String> NO_CALL = Set.of("if", "for", "switch", "return", "this", "super", "catch");

    private static final int MOST_LINES = 60;
    private static final int MOST_PARAMETERS = 7;
    private static final int MOST_CLASSES = 12;
    private static final int MOST_FIELDS = 20;
    private static final int MOST_DEPTH = 8;

    private static final Pattern WORD = Pattern.compile("\\w+");
    private static final Pattern CALLED = Pattern.compile("(new )?\\b(\\w+)\\(");
    private static final Pattern TEXT = Pattern.compile("\"(?:[^\"\\\\]|\\\\.)*\"");
    private static final Pattern COMMENT = Pattern.compile("/\\*.*?\\*/|//[^\n]*", Pattern.DOTALL);
    private static final Pattern REFUSAL =
            Pattern.compile("throw new (IndexOutOfBounds|IllegalArgument|IllegalState)Exception\\(\"\"\\);");

    /** A method of the source, or a constructor, with its body. */
    private static final class Part {
        final String name;
        final String header;
        final String body;

        Part(String header, String body) {
            Matcher word = CALLED.matcher(header);
            this.name = word.find() ? word.group(2) : "";
            this.header = header.trim();
            this.body = body;
        }

        boolean isConstructor() {
            return Character.isUpperCase(name.charAt(0));
        }
    }

    public static void main(String[] args) throws IOException {
        String source = Files.readString(SOURCE);
        String code = TEXT.matcher(COMMENT.matcher(source).replaceAll("")).replaceAll("\"\"");
        List<Part> parts = partsOf(code);
        Check.part("language");
        Check.is("methods were found", true, parts.size() > 50);
        wordsAreInTheLanguage(source, code);
        List<Class<?>> classes = allClasses();
        Check.is("at most some twelve classes", true, classes.size() <= MOST_CLASSES);
        for (Class<?> one : classes) {
            classIsInTheLanguage(one);
        }
        for (Part part : parts) {
            partIsInTheLanguage(part);
            int depth = depthOf(part, parts, new ArrayDeque<>());
            Check.is(part.name + " goes " + depth + " calls deep: few enough", true, depth <= MOST_DEPTH);
        }
        Check.end();
    }

    private static void wordsAreInTheLanguage(String source, String code) {
        Check.is("all signs are plain", true, source.chars().allMatch(sign -> sign == '\n' || sign >= 32 && sign < 127));
        Check.is("no lambda, no method reference", false, code.contains("->") || code.contains("::"));
        Check.is("no text is joined by +", false, Pattern.compile("\"\\s*\\+|\\+\\s*\"").matcher(code).find());
        Check.is("no cast", false, Pattern.compile("\\((int|long|short|byte|char|[A-Z]\\w*)\\) ?[\\w(]").matcher(code).find());
        Check.is("each divisor is a constant", false,
                Pattern.compile("[/%]=? *(?!PORTS\\b|ROWS\\b)\\S").matcher(code).find());
        Matcher word = WORD.matcher(code);
        while (word.find()) {
            if (LEFT_OUT.contains(word.group())) {
                Check.is("'" + word.group() + "' stands in the source", false, true);
            }
        }
    }

    private static List<Class<?>> allClasses() {
        List<Class<?>> all = new ArrayList<>(List.of(SwitchFloor.class));
        all.addAll(Arrays.asList(SwitchFloor.class.getDeclaredClasses()));
        return all;
    }

    private static void classIsInTheLanguage(Class<?> one) {
        int fields = 0;
        for (Field field : one.getDeclaredFields()) {
            String name = one.getName() + "." + field.getName();
            boolean constant = Modifier.isStatic(field.getModifiers());
            fields += constant ? 0 : 1;
            Check.is(name + ": a static field is final", true, !constant || Modifier.isFinal(field.getModifiers()));
            Check.is(name + ": a static field is a number", true, !constant || field.getType() == int.class);
            Check.is(name + " is of a type of the language", true, isOfTheLanguage(field.getType()));
        }
        Check.is(one.getName() + " has at most some twenty fields", true, fields <= MOST_FIELDS);
        Check.is(one.getName() + " has no class inside but the face", true,
                one == SwitchFloor.class || one.getDeclaredClasses().length == 0);
        for (Method method : one.getDeclaredMethods()) {
            String name = one.getName() + "." + method.getName();
            Check.is(name + " takes few enough", true, method.getParameterCount() <= MOST_PARAMETERS);
            Check.is(name + " answers in the language", true, isOfTheLanguage(method.getReturnType()));
            for (Class<?> type : method.getParameterTypes()) {
                Check.is(name + " takes what is in the language", true, isOfTheLanguage(type));
            }
        }
    }

    private static boolean isOfTheLanguage(Class<?> type) {
        if (type.isArray()) {
            return type.getComponentType().isPrimitive();
        }
        return type.isPrimitive() || type.getNestHost() == SwitchFloor.class;
    }

    private static void partIsInTheLanguage(Part part) {
        Check.is(part.name + " is short", true, part.body.lines().count() <= MOST_LINES);
        String rest = REFUSAL.matcher(part.body).replaceAll("");
        Check.is(part.name + " throws by the form", false, rest.contains("throw "));
        if (part.isConstructor()) {
            Check.is(part.name + " throws nothing", true, rest.equals(part.body));
        } else {
            Check.is(part.name + " makes nothing but what it throws", false, rest.contains("new "));
        }
    }

    /** How many calls stand open at once in a part, itself counted; one that calls itself is too deep. */
    private static int depthOf(Part part, List<Part> parts, Deque<Part> open) {
        if (open.contains(part)) {
            return MOST_DEPTH + 1;
        }
        open.push(part);
        int deepest = 0;
        Matcher call = CALLED.matcher(part.body);
        while (call.find()) {
            for (Part other : parts) {
                boolean made = call.group(1) != null;
                if (other.name.equals(call.group(2)) && !NO_CALL.contains(other.name) && other.isConstructor() == made) {
                    deepest = Math.max(deepest, depthOf(other, parts, open));
                }
            }
        }
        open.pop();
        return deepest + 1;
    }

    /** A brace behind a header with a parenthesis, that stands in a class and not in a method, opens a part. */
    private static List<Part> partsOf(String code) {
        List<Part> found = new ArrayList<>();
        Deque<Integer> classes = new ArrayDeque<>();
        int depth = 0;
        int start = 0;
        for (int i = 0; i < code.length(); i++) {
            char sign = code.charAt(i);
            if (sign == '{') {
                String header = code.substring(start, i);
                depth++;
                if (header.contains(" class ")) {
                    classes.push(depth);
                } else if (!classes.isEmpty() && classes.peek() == depth - 1 && header.contains("(")) {
                    found.add(new Part(header, code.substring(i + 1, closing(code, i))));
                }
            } else if (sign == '}') {
                if (!classes.isEmpty() && classes.peek() == depth) {
                    classes.pop();
                }
                depth--;
            }
            start = sign == '{' || sign == '}' || sign == ';' ? i + 1 : start;
        }
        return found;
    }

    private static int closing(String code, int opening) {
        int depth = 0;
        for (int i = opening; i < code.length(); i++) {
            depth += code.charAt(i) == '{' ? 1 : code.charAt(i) == '}' ? -1 : 0;
            if (depth == 0) {
                return i;
            }
        }
        return code.length();
    }
}
