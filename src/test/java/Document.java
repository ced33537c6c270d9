import java.io.IOException;
import java.nio.file.Files;
import java.nio.file.Path;
import java.util.Arrays;
import java.util.LinkedHashMap;
import java.util.Map;

/** The text of ../shared/DOC.md by its headings, and which of its words some test quotes. */
final class Document {
    private static final Path PLACE = Path.of("../shared/DOC.md");

    private final Map<String, String> texts = new LinkedHashMap<>();
    private final Map<String, boolean[]> quoted = new LinkedHashMap<>();

    Document() throws IOException {
        for (String section : Files.readString(PLACE).split("(?m)^## ")) {
            int titleEnd = section.indexOf('\n');
            String heading = section.substring(0, titleEnd).split(":")[0];
            String text = plain(section.substring(titleEnd));
            texts.put(heading, text);
            quoted.put(heading, new boolean[text.length()]);
        }
    }

    static boolean isThere() {
        return Files.isReadable(PLACE);
    }

    /** Without fences and signatures (those are FaceTest's), in one line. */
    private static String plain(String text) {
        return text.replaceAll("(?m)^```.*$", " ").replaceAll("`[^`\n]*`", " ").replaceAll("\\s+", " ");
    }

    boolean says(String heading, String words) {
        String text = texts.getOrDefault(heading, "");
        int at = text.indexOf(words);
        boolean found = at >= 0;
        while (at >= 0) {
            Arrays.fill(quoted.get(heading), at, at + words.length(), true);
            at = text.indexOf(words, at + 1);
        }
        return found;
    }

    /** The words under a heading that no test has quoted. */
    String unquoted(String heading) {
        String text = texts.getOrDefault(heading, "nothing stands under this heading");
        boolean[] marks = quoted.getOrDefault(heading, new boolean[text.length()]);
        StringBuilder left = new StringBuilder();
        for (int at = 0; at < text.length(); at++) {
            left.append(marks[at] ? '|' : text.charAt(at));
        }
        String words = left.toString().replaceAll("\\|+", "|");
        return words.matches(".*[A-Za-z0-9].*") ? words : "";
    }
}
