import java.io.IOException;
import java.nio.file.Files;
import java.nio.file.Path;
import java.util.Arrays;
import java.util.LinkedHashMap;
import java.util.Map;

/**
 * The document, whose words are the names of the boundary tests. A test that quotes words which the document doesn't
 * hold is wrong, and so is a word of the document that no test has quoted in the end.
 */
final class Doc {
    private static final Path FILE = Path.of("../shared/DOC.md");
    private static final Map<String, String> WORDS = new LinkedHashMap<>();
    private static final Map<String, boolean[]> QUOTED = new LinkedHashMap<>();

    private Doc() {
    }

    static void read() throws IOException {
        String name = "";
        StringBuilder text = new StringBuilder();
        for (String line : Files.readAllLines(FILE)) {
            if (line.startsWith("## ")) {
                keep(name, text.toString());
                name = line.substring(3).replaceAll(":.*", "");
                text.setLength(0);
            } else {
                text.append(line).append(' ');
            }
        }
        keep(name, text.toString());
    }

    /** The face is FaceTest's; a promise starts with a piece of the face, which is cut off. */
    private static void keep(String name, String text) {
        boolean isPromise = name.startsWith("Promise ");
        if (isPromise || name.equals("Terms") || name.equals("What it is")) {
            String cut = isPromise ? text.replaceFirst("^\\s*`[^`]*`: ", "") : text;
            String words = cut.replace("`", "").replaceAll("\\s+", " ").trim();
            WORDS.put(name, words);
            QUOTED.put(name, new boolean[words.length()]);
        }
    }

    /** A test of these words begins. */
    static void says(String section, String words) {
        String all = WORDS.getOrDefault(section, "");
        Check.under(section + ", \"" + words + "\"");
        int at = all.indexOf(words);
        Check.same("in the document", at >= 0, true);
        while (at >= 0) {
            Arrays.fill(QUOTED.get(section), at, at + words.length(), true);
            at = all.indexOf(words, at + 1);
        }
    }

    /** These words name nothing that a test could look at from both sides. */
    static void namesNoBoundary(String section, String words) {
        says(section, words);
    }

    static void checkThatAllIsQuoted() {
        Check.under("The document");
        Check.same("its sections", WORDS.size(), 33);
        for (String section : WORDS.keySet()) {
            Check.same("words of " + section + " without a test", withoutTest(section), "");
        }
    }

    private static String withoutTest(String section) {
        StringBuilder left = new StringBuilder();
        boolean[] quoted = QUOTED.get(section);
        for (int i = 0; i < quoted.length; i++) {
            char sign = WORDS.get(section).charAt(i);
            if (!quoted[i] && (Character.isLetterOrDigit(sign) || left.length() > 0)) {
                left.append(sign);
            }
        }
        return left.toString().trim();
    }
}
