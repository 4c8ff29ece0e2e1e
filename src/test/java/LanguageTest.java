import java.io.IOException;
import java.lang.reflect.Field;
import java.lang.reflect.Modifier;
import java.nio.file.Files;
import java.nio.file.Path;
import java.util.ArrayList;
import java.util.List;
import java.util.TreeSet;

/** The rules of LANGUAGE.md that can be told from the text and the classes of the program. */
public final class LanguageTest {
    private static final Path SOURCE = Path.of("src/main/java/Crossdockery.java");
    private static final String[] FORBIDDEN = {
        "->", "::", "finally", "assert ", "synchronized", "catch", "instanceof", "@", "Exact(", "System.",
        "java.util.Random", "Thread", "\" +", "+ \"", "equals(", "hashCode", "toString", "<?", "static {",
    };
    private static final int LONGEST_METHOD = 60;
    private static final int MOST_CLASSES = 12;
    private static final int MOST_FIELDS = 20;

    public static void main(String[] args) throws IOException {
        List<String> lines = Files.readAllLines(SOURCE);
        imports(lines);
        for (String line : lines) {
            for (String word : FORBIDDEN) {
                Check.same("the line '" + line.trim() + "' holds " + word, line.contains(word), false);
            }
        }
        methodsAreShort(lines);
        classes();
        Check.finish();
    }

    private static void imports(List<String> lines) {
        TreeSet<String> found = new TreeSet<>();
        for (String line : lines) {
            if (line.startsWith("import ") || line.startsWith("package ")) {
                found.add(line);
            }
        }
        Check.same("imports", found, new TreeSet<>(List.of("import java.util.ArrayList;",
                "import java.util.NoSuchElementException;")));
    }

    /** A method starts behind a line that ends in ") {" or a throws clause and ends at the brace of its depth. */
    private static void methodsAreShort(List<String> lines) {
        for (String indent : new String[] {"    ", "        "}) {
            int start = -1;
            for (int i = 0; i < lines.size(); i++) {
                String line = lines.get(i);
                boolean isHere = line.startsWith(indent) && !line.startsWith(indent + " ");
                if (isHere && line.contains("(") && !line.endsWith(";")) {
                    start = i;
                } else if (isHere && line.equals(indent + "}") && start >= 0) {
                    Check.same("the method of line " + (start + 1) + " is long", i - start > LONGEST_METHOD, false);
                    start = -1;
                }
            }
        }
    }

    private static void classes() {
        List<Class<?>> all = new ArrayList<>();
        all.add(Crossdockery.class);
        all.addAll(List.of(Crossdockery.class.getDeclaredClasses()));
        Check.same("many classes", all.size() > MOST_CLASSES, false);
        for (Class<?> one : all) {
            int own = 0;
            for (Field field : one.getDeclaredFields()) {
                boolean isStatic = Modifier.isStatic(field.getModifiers());
                own += isStatic ? 0 : 1;
                Check.same("static state " + field, isStatic && !Modifier.isFinal(field.getModifiers()), false);
            }
            Check.same("many fields in " + one, own > MOST_FIELDS, false);
        }
    }
}
