import java.lang.reflect.Constructor;
import java.lang.reflect.Field;
import java.lang.reflect.Method;
import java.lang.reflect.Modifier;
import java.nio.charset.StandardCharsets;
import java.nio.file.Files;
import java.nio.file.Path;
import java.util.Set;
import java.util.TreeSet;
import java.util.regex.Matcher;
import java.util.regex.Pattern;

/** The face is the document's and no more; the source keeps to those rules of LANGUAGE.md that a text can show. */
public final class FaceTest {
    private static int wrong = 0;

    private static void check(boolean right, String what) {
        if (!right) {
            wrong++;
            System.out.println(what);
        }
    }

    private static String read(String path) throws Exception {
        return new String(Files.readAllBytes(Path.of(path)), StandardCharsets.UTF_8);
    }

    private static Set<String> methodsOfDocument() throws Exception {
        Set<String> told = new TreeSet<>();
        Matcher m = Pattern.compile("    public (int|long) (\\w+)\\((.*)\\);").matcher(read("../shared/DOC.md"));
        while (m.find()) {
            told.add(m.group(1) + " " + m.group(2) + "(" + m.group(3).replaceAll("(int|long) \\w+", "$1").replace(" ", "") + ")");
        }
        return told;
    }

    private static void checkFace() throws Exception {
        check(Modifier.isFinal(TwoMinutes.class.getModifiers()) && Modifier.isPublic(TwoMinutes.class.getModifiers()), "not public and final");
        Set<String> seen = new TreeSet<>();
        for (Method m : TwoMinutes.class.getDeclaredMethods()) {
            if (Modifier.isPrivate(m.getModifiers()) || m.isSynthetic()) {
                continue;
            }
            StringBuilder types = new StringBuilder();
            for (Class<?> type : m.getParameterTypes()) {
                types.append(types.length() == 0 ? "" : ",").append(type.getName());
            }
            seen.add(m.getReturnType().getName() + " " + m.getName() + "(" + types + ")");
            check(Modifier.isPublic(m.getModifiers()) && !Modifier.isStatic(m.getModifiers()), "not public, or static: " + m);
        }
        Set<String> due = methodsOfDocument();
        check(due.size() == 45, "the document's face has " + due.size() + " methods");
        check(seen.equals(due), "the face is " + seen + ", due is " + due);
        for (Constructor<?> c : TwoMinutes.class.getDeclaredConstructors()) {
            check(Modifier.isPublic(c.getModifiers()) && c.getParameterCount() == 0, "another constructor: " + c);
        }
        for (Field f : TwoMinutes.class.getDeclaredFields()) {
            boolean constant = f.getName().matches("BAD|FULL|NONE");
            check(constant ? Modifier.isPublic(f.getModifiers()) : Modifier.isPrivate(f.getModifiers()), "seen from outside: " + f);
            check(!Modifier.isStatic(f.getModifiers()) || Modifier.isFinal(f.getModifiers()), "static state: " + f);
        }
        check(TwoMinutes.BAD == -1 && TwoMinutes.FULL == -2 && TwoMinutes.NONE == -3, "the constants");
    }

    private static void checkNested() {
        Set<String> names = new TreeSet<>();
        for (Method m : TwoMinutes.class.getMethods()) {
            names.add(m.getName());
        }
        for (Class<?> c : TwoMinutes.class.getDeclaredClasses()) {
            check(Modifier.isStatic(c.getModifiers()), "not static: " + c);
            for (Method m : c.getDeclaredMethods()) {
                check(!names.contains(m.getName()), "bears a name of the face: " + m);
                check(m.getParameterCount() <= 7, "too many parameters: " + m);
            }
        }
        for (Method m : TwoMinutes.class.getDeclaredMethods()) {
            check(!Modifier.isPrivate(m.getModifiers()) || !names.contains(m.getName()), "bears a name of the face: " + m);
        }
    }

    private static void checkSource() throws Exception {
        String source = read("src/main/java/TwoMinutes.java");
        String code = source.replaceAll("(?s)/\\*.*?\\*/", "").replaceAll("//[^\n]*", "").replaceAll("\"[^\"\n]*\"", "\"\"");
        String[] ruledOut = {"throw", "try", "catch", "synchronized", "assert", "import", "package", "Exact", "->", "::", "double", "float",
            "hashCode", "toString", "native", "volatile", "Thread", "Random", "System\\.(?!arraycopy)"};
        for (String word : ruledOut) {
            String pattern = word.matches("\\w+") && !word.equals("Exact") ? "\\b" + word + "\\b" : word;
            check(!Pattern.compile(pattern).matcher(code).find(), "ruled out: " + word);
        }
        check(source.chars().allMatch(sign -> sign == '\n' || sign >= 32 && sign < 127), "a sign that is not plain");
        check(Pattern.compile("\\bclass\\b").matcher(code).results().count() <= 12, "more than twelve classes");
    }

    public static void main(String[] args) throws Exception {
        checkFace();
        checkNested();
        checkSource();
        System.out.println(wrong == 0 ? "the face is as told" : wrong + " faults of the face");
        if (wrong != 0) {
            System.exit(1);
        }
    }
}
