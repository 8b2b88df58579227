import java.lang.reflect.Field;
import java.lang.reflect.Method;
import java.lang.reflect.Modifier;
import java.nio.charset.StandardCharsets;
import java.nio.file.Files;
import java.nio.file.Path;
import java.util.ArrayDeque;
import java.util.ArrayList;
import java.util.Arrays;
import java.util.Deque;
import java.util.LinkedHashMap;
import java.util.List;
import java.util.Map;
import java.util.regex.Matcher;
import java.util.regex.Pattern;

/** The numbers that LANGUAGE.md tells (rules 5, 11 and 12): lengths, depths, fields, and where objects are made. */
public final class RulesTest {
    private static final int MOST_LINES = 60, MOST_DEEP = 8, MOST_FIELDS = 20, MOST_PARAMETERS = 7, MOST_CLASSES = 12;
    private static final Pattern METHOD = Pattern.compile("( +)(?:(?:public|private|static|final) )*(?:int|long|boolean|void) (\\w+)\\(.*\\) \\{");
    private static final Pattern CONSTRUCTOR = Pattern.compile("( +)(?:public )?(\\w+)\\(.*\\) \\{");

    private static int wrong = 0;

    private static void check(boolean right, String what) {
        if (!right) {
            wrong++;
            System.out.println(what);
        }
    }

    private static String code() throws Exception {
        String source = new String(Files.readAllBytes(Path.of("src/main/java/TwoMinutes.java")), StandardCharsets.UTF_8);
        return source.replaceAll("(?s)/\\*.*?\\*/", "").replaceAll("//[^\n]*", "").replaceAll("\"[^\"\n]*\"", "\"\"");
    }

    /** The lines of each method (or constructor), by its name; methods of one name stand together. */
    private static Map<String, List<String>> bodies(String code, Pattern beginning) {
        Map<String, List<String>> bodies = new LinkedHashMap<>();
        List<String> body = null;
        String end = "";
        for (String line : code.split("\n")) {
            Matcher m = beginning.matcher(line);
            if (m.matches() && !line.trim().matches("(if|for|while|switch)\\b.*")) {
                body = bodies.computeIfAbsent(m.group(2), name -> new ArrayList<>());
                end = m.group(1) + "}";
            } else if (line.equals(end)) {
                body = null;
            } else if (body != null) {
                body.add(line);
            }
        }
        return bodies;
    }

    /** How many calls stand open at most from this one on, recursion being cut where a method comes again. */
    private static int depth(Map<String, List<String>> bodies, String name, Deque<String> open) {
        open.push(name);
        int deepest = 0;
        // name.length() is a text's, not the face's
        Matcher m = Pattern.compile("(?<!name\\.)\\b(\\w+)\\(").matcher(String.join("\n", bodies.get(name)));
        while (m.find()) {
            if (bodies.containsKey(m.group(1)) && !open.contains(m.group(1))) {
                deepest = Math.max(deepest, depth(bodies, m.group(1), open));
            }
        }
        open.pop();
        return deepest + 1;
    }

    private static void checkMethods(String code) {
        Map<String, List<String>> bodies = bodies(code, METHOD);
        check(bodies.size() > 80, "only " + bodies.size() + " methods were found");
        for (String name : bodies.keySet()) {
            check(bodies.get(name).size() <= MOST_LINES, "long: " + name);
            int deep = depth(bodies, name, new ArrayDeque<>());
            check(deep <= MOST_DEEP, "calls from " + name + " on go " + deep + " deep");
        }
    }

    /** Objects are made in constructors and in what fields begin with alone, so that no call makes one. */
    private static void checkMaking(String code) {
        Map<String, List<String>> making = bodies(code, METHOD);
        for (String name : making.keySet()) {
            String body = String.join("\n", making.get(name));
            check(!Pattern.compile("\\bnew\\b|\\bclone\\(|copyOf").matcher(body).find(), "makes an object: " + name);
        }
        check(bodies(code, CONSTRUCTOR).containsKey("TwoMinutes"), "no constructor was found");
    }

    private static void checkClass(Class<?> c) {
        int fields = 0;
        for (Field f : c.getDeclaredFields()) {
            fields += Modifier.isStatic(f.getModifiers()) ? 0 : 1;
            boolean isConstant = Modifier.isFinal(f.getModifiers())
                && Arrays.<Class<?>>asList(int.class, long.class, boolean.class, char.class, String.class, int[].class).contains(f.getType());
            check(!Modifier.isStatic(f.getModifiers()) || isConstant, "static, and no constant: " + f);
        }
        check(fields <= MOST_FIELDS, fields + " fields: " + c);
        for (Method m : c.getDeclaredMethods()) {
            check(m.getParameterCount() <= MOST_PARAMETERS, "too many parameters: " + m);
        }
    }

    public static void main(String[] args) throws Exception {
        String code = code();
        checkMethods(code);
        checkMaking(code);
        checkClass(TwoMinutes.class);
        Class<?>[] inside = TwoMinutes.class.getDeclaredClasses();
        check(inside.length + 1 <= MOST_CLASSES, "more than twelve classes");
        for (Class<?> c : inside) {
            checkClass(c);
        }
        System.out.println(wrong == 0 ? "the rules' numbers are kept" : wrong + " faults");
        if (wrong != 0) {
            System.exit(1);
        }
    }
}
