import java.io.IOException;
import java.lang.reflect.Field;
import java.lang.reflect.Method;
import java.lang.reflect.Modifier;
import java.nio.file.Files;
import java.nio.file.Path;
import java.util.ArrayList;
import java.util.List;
import java.util.Map;
import java.util.Set;
import java.util.TreeMap;
import java.util.TreeSet;
import java.util.regex.Matcher;
import java.util.regex.Pattern;

/** The rules of LANGUAGE.md that can be seen from the program's text or its classes. */
public final class LanguageTest {
    private static final String BANNED = "\\b(throw|throws|try|catch|synchronized|assert|\\w+Exact|var|import|package|protected|native|strictfp|volatile|static\\s*\\{|double|float|hashCode|toString|equals)\\b|->|::";
    private static final Set<String> LIBRARY = Set.of("Math.abs", "Math.max", "Math.min", "Math.floorDiv", "Math.floorMod");
    private static final Set<Class<?>> TYPES = Set.of(void.class, int.class, long.class, boolean.class, int[].class, int[][].class);
    private static final Pattern METHOD = Pattern.compile("(?m)^ +(?:public |private )?(?:static )?(?:int|long|boolean|void) (\\w+)\\([^)]*\\) \\{$");
    private static final int MOST_LINES = 60, MOST_DEPTH = 8, MOST_CLASSES = 12, MOST_FIELDS = 20, MOST_PARAMETERS = 7;

    public static void main(String[] args) throws IOException {
        String text = Files.readString(Path.of("src/main/java/WheelStand.java"));
        String code = text.replaceAll("(?s)/\\*.*?\\*/", "").replaceAll("//[^\n]*", "");
        Check.holds("rule 3: the program is plain text", text.chars().allMatch(c -> c < 128));
        words(code);
        library(code);
        List<Class<?>> classes = new ArrayList<>(List.of(WheelStand.class.getDeclaredClasses()));
        classes.add(WheelStand.class);
        Check.holds("rule 11: at most twelve classes", classes.size() <= MOST_CLASSES);
        for (Class<?> each : classes) {
            names(each);
            types(each);
            sizes(each);
        }
        depths(methods(code));
        Check.end();
    }

    private static void words(String code) {
        Matcher banned = Pattern.compile(BANNED).matcher(code);
        while (banned.find()) {
            Check.holds("rules 3, 5, 6: no '" + banned.group() + "' in the program", false);
        }
    }

    /** Rule 4: "The library: only what stands here"; Integer.MAX_VALUE, too, does not. */
    private static void library(String code) {
        Matcher used = Pattern.compile("\\b(?!WheelStand)[A-Z][a-z]\\w*\\.\\w+").matcher(code);
        while (used.find()) {
            Check.holds("rule 4: " + used.group() + " stands in the library's list", LIBRARY.contains(used.group()));
        }
    }

    private static void names(Class<?> of) {
        Set<String> open = new TreeSet<>();
        for (Method method : WheelStand.class.getMethods()) {
            open.add(method.getName());
        }
        for (Method method : of.getDeclaredMethods()) {
            Check.holds("rule 1: " + method + " has a name of its own", Modifier.isPublic(method.getModifiers()) || !open.contains(method.getName()));
        }
    }

    private static void types(Class<?> of) {
        for (Field field : of.getDeclaredFields()) {
            Check.holds("rule 3: the type of " + field, isFine(field.getType()));
            Check.holds("rule 5: " + field + " is final, if it is static", !Modifier.isStatic(field.getModifiers()) || Modifier.isFinal(field.getModifiers()));
        }
        for (Method method : of.getDeclaredMethods()) {
            Check.holds("rule 3: what comes of " + method, isFine(method.getReturnType()));
            for (Class<?> type : method.getParameterTypes()) {
                Check.holds("rule 3: what is given to " + method, isFine(type));
            }
        }
    }

    private static boolean isFine(Class<?> type) {
        return TYPES.contains(type) || type.getNestHost() == WheelStand.class;
    }

    private static void sizes(Class<?> of) {
        int fields = 0;
        for (Field field : of.getDeclaredFields()) {
            fields += Modifier.isStatic(field.getModifiers()) ? 0 : 1;
        }
        Check.holds("rule 11: some twenty fields in " + of, fields <= MOST_FIELDS);
        for (Method method : of.getDeclaredMethods()) {
            Check.holds("rule 11: at most seven parameters of " + method, method.getParameterCount() <= MOST_PARAMETERS);
        }
    }

    /** The texts of all methods, by name; those of one name (in two classes) are taken together. */
    private static Map<String, String> methods(String code) {
        Map<String, String> bodies = new TreeMap<>();
        Matcher head = METHOD.matcher(code);
        int seen = 0;
        while (head.find()) {
            String indent = head.group().replaceAll("\\S.*", "");
            int end = code.indexOf("\n" + indent + "}", head.end());
            String body = code.substring(head.end(), end);
            Check.holds("rule 11: " + head.group(1) + " is short", body.lines().count() <= MOST_LINES);
            bodies.merge(head.group(1), body, String::concat);
            seen++;
        }
        int declared = WheelStand.class.getDeclaredMethods().length;
        for (Class<?> inside : WheelStand.class.getDeclaredClasses()) {
            declared += inside.getDeclaredMethods().length;
        }
        Check.due("methods that were found in the text", seen, declared);
        return bodies;
    }

    private static void depths(Map<String, String> bodies) {
        for (String name : bodies.keySet()) {
            Check.holds("rule 11: calls go at most eight deep from " + name, depth(name, bodies, 0) <= MOST_DEPTH);
        }
    }

    private static int depth(String name, Map<String, String> bodies, int above) {
        int deepest = 0;
        Matcher call = Pattern.compile("\\b(\\w+)\\(").matcher(bodies.get(name));
        // a method that calls itself is beyond the depth at once
        while (call.find() && above <= MOST_DEPTH) {
            if (bodies.containsKey(call.group(1))) {
                deepest = Math.max(deepest, depth(call.group(1), bodies, above + 1));
            }
        }
        return 1 + deepest;
    }
}
