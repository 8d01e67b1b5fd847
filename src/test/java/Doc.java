import java.io.IOException;
import java.io.UncheckedIOException;
import java.nio.file.Files;
import java.nio.file.Path;
import java.util.ArrayList;
import java.util.List;

/** Names the sentence of the document that a test is for, and checks that it stands there word by word. */
final class Doc {
    private static final Path PAGE = Path.of("../shared/DOC.md");

    private static String page;

    private Doc() {
    }

    /** The lines of the public face, without the brace at its end. */
    static List<String> face() {
        String text = between("public final class SwitchFloor {", "} ## Terms");
        List<String> lines = new ArrayList<>();
        for (String line : text.split("(?<=[;{]) ")) {
            lines.add(line.trim());
        }
        return lines;
    }

    /** A sentence of the terms, or of what stands ahead of them. */
    static void terms(String sentence) {
        named("terms", between("# SwitchFloor", "## Promise 1:"), sentence);
    }

    static void promise(int number, String sentence) {
        named("promise " + number, promise(number), sentence);
    }

    /** All that the document says of a promise, in one line. */
    static String promise(int number) {
        String end = number == 19 ? "## Not promised" : "## Promise " + (number + 1) + ":";
        return between("## Promise " + number + ":", end);
    }

    /** The sentence that tells when a call throws the exception; empty if the promise has none. */
    static String throwsLine(int number, String exception) {
        String[] lines = promise(number).split("(?=Throws )");
        for (String line : lines) {
            if (line.startsWith("Throws " + exception + " if ")) {
                return "promise " + number + ", \"" + line.trim() + "\"";
            }
        }
        return "";
    }

    private static void named(String where, String text, String sentence) {
        Check.part(where + ", \"" + sentence + "\"");
        Check.is("the sentence stands in the document", true, text.contains(plain(sentence)));
    }

    private static String between(String start, String end) {
        String text = text();
        int from = text.indexOf(start);
        int to = text.indexOf(end);
        return from < 0 || to < from ? "" : text.substring(from, to);
    }

    private static String text() {
        if (page == null) {
            try {
                page = plain(Files.readString(PAGE));
            } catch (IOException e) {
                throw new UncheckedIOException(e);
            }
        }
        return page;
    }

    /** Marks of code and the ends of lines are no part of a sentence. */
    private static String plain(String text) {
        return text.replace("`", "").replaceAll("\\s+", " ");
    }
}
