import java.io.PrintWriter;
import java.io.StringWriter;
import java.util.ArrayList;
import java.util.List;
import java.util.Map;
import java.util.Set;
import java.util.TreeMap;
import java.util.TreeSet;
import java.util.regex.Matcher;
import java.util.regex.Pattern;
import java.util.spi.ToolProvider;

/** LANGUAGE.md's rules on what is called (4, 6, 8 and 11), told from the compiled classes. */
public final class CallsTest {
    private static final int MOST_DEEP = 8;
    private static final int MOST_PARAMETERS = 7;
    private static final Set<String> LIBRARY = Set.of(
            "java/lang/Object.<init>",
            "java/lang/Math.min", "java/lang/Math.max",
            "java/util/ArrayList.<init>", "java/util/ArrayList.add", "java/util/ArrayList.get",
            "java/util/ArrayList.size",
            "java/lang/ArithmeticException.<init>", "java/lang/IllegalArgumentException.<init>",
            "java/lang/IllegalStateException.<init>", "java/lang/IndexOutOfBoundsException.<init>",
            "java/lang/UnsupportedOperationException.<init>", "java/util/NoSuchElementException.<init>");
    private static final Set<String> RECURSIVE = Set.of("Crossdockery$Plan.search");

    private static final Pattern HEAD = Pattern.compile("^  (?! ).*?([\\w$]+)\\(.*;$");
    private static final Pattern DESCRIPTOR = Pattern.compile("^    descriptor: (\\(.*)$");
    private static final Pattern CALL = Pattern.compile("// (?:Interface)?Method (\\S+)$");
    private static final Pattern PARAMETER = Pattern.compile("\\[*(?:L[^;]*;|[ZBCSIJFD])");

    private static final Map<String, Set<String>> CALLED = new TreeMap<>();
    private static final Map<String, Integer> DEPTHS = new TreeMap<>();

    public static void main(String[] args) {
        read("Crossdockery");
        for (Class<?> inside : Crossdockery.class.getDeclaredClasses()) {
            read(inside.getName());
        }
        Check.same("methods were found", CALLED.size() > Crossdockery.class.getDeclaredMethods().length, true);
        for (String method : CALLED.keySet()) {
            library(method);
            parameters(method);
            recursion(method);
        }
        for (String method : CALLED.keySet()) {
            Check.same(method + " goes deep", depth(method, new ArrayList<>()) > MOST_DEEP, false);
        }
        Check.finish();
    }

    /** Each method is kept as Class.name:descriptor, as the compiler writes it where it is called. */
    private static void read(String className) {
        String name = "";
        Set<String> called = new TreeSet<>();
        for (String line : disassembled(className)) {
            Matcher head = HEAD.matcher(line);
            Matcher descriptor = DESCRIPTOR.matcher(line);
            Matcher call = CALL.matcher(line);
            if (head.find()) {
                name = head.group(1).equals(className) ? "<init>" : head.group(1);
            } else if (descriptor.find()) {
                called = new TreeSet<>();
                CALLED.put(className + "." + name + ":" + descriptor.group(1), called);
            } else if (call.find()) {
                String target = call.group(1).replace("\"", "");
                called.add(target.matches("[^:(]*\\..*") ? target : className + "." + target);
            }
        }
    }

    private static String[] disassembled(String className) {
        StringWriter text = new StringWriter();
        PrintWriter out = new PrintWriter(text);
        int code = ToolProvider.findFirst("javap").orElseThrow()
                .run(out, out, "-p", "-c", "-s", "-cp", System.getProperty("java.class.path"), className);
        out.flush();
        Check.same("javap " + className, code, 0);
        return text.toString().split("\\R");
    }

    private static void library(String method) {
        for (String target : CALLED.get(method)) {
            boolean isOwn = CALLED.containsKey(target);
            Check.same(method + " may call " + target, isOwn || LIBRARY.contains(target.replaceAll(":.*", "")), true);
        }
    }

    private static void parameters(String method) {
        Matcher matcher = PARAMETER.matcher(method.substring(method.indexOf('('), method.indexOf(')')));
        int count = 0;
        while (matcher.find()) {
            count++;
        }
        Check.same(method + " takes many parameters", count > MOST_PARAMETERS, false);
    }

    private static void recursion(String method) {
        boolean isRecursive = CALLED.get(method).contains(method);
        Check.same(method + " calls itself", isRecursive, RECURSIVE.contains(method.replaceAll(":.*", "")));
    }

    /** How many methods of the program stand open at most when this one is called; a call of itself isn't counted. */
    private static int depth(String method, List<String> open) {
        Check.same(open + " come round to " + method, open.contains(method), false);
        Integer known = DEPTHS.get(method);
        if (known != null || open.contains(method)) {
            return known == null ? 0 : known;
        }
        open.add(method);
        int most = 0;
        for (String target : CALLED.get(method)) {
            if (CALLED.containsKey(target) && !target.equals(method)) {
                most = Math.max(most, depth(target, open));
            }
        }
        open.remove(open.size() - 1);
        DEPTHS.put(method, most + 1);
        return most + 1;
    }
}
