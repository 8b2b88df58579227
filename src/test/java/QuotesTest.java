import java.nio.charset.StandardCharsets;
import java.nio.file.Files;
import java.nio.file.Path;
import java.util.ArrayList;
import java.util.Arrays;
import java.util.LinkedHashMap;
import java.util.List;
import java.util.Map;
import java.util.regex.Matcher;
import java.util.regex.Pattern;
import java.util.stream.Collectors;
import java.util.stream.Stream;

/** Every quote stands in the document where it is said to, and no word of Terms or of a promise is left unquoted. */
public final class QuotesTest {
    private static int wrong = 0;

    private static void fault(String what) {
        wrong++;
        System.out.println(what);
    }

    private static String read(Path path) throws Exception {
        return new String(Files.readAllBytes(path), StandardCharsets.UTF_8);
    }

    private static String oneLine(String text) {
        return text.replaceAll("\\s+", " ").trim();
    }

    /** The document's parts by name: 'What it is', 'Terms', 'Terms 1' to 'Terms 3', 'Promise 1' to 'Promise 46', .. */
    private static Map<String, String> parts() throws Exception {
        Map<String, String> parts = new LinkedHashMap<>();
        for (String part : read(Path.of("../shared/DOC.md")).split("\n## ")) {
            String heading = part.substring(0, part.indexOf('\n'));
            String text = part.substring(part.indexOf('\n')).replaceAll("```\\w*", "");
            if (heading.equals("Terms")) {
                String[] terms = text.split("======== \\d ");
                for (int i = 0; i < terms.length; i++) {
                    parts.put(i == 0 ? "Terms" : "Terms " + i, oneLine(terms[i]));
                }
            } else {
                // FaceTest looks at what stands between the backticks: the call itself
                parts.put(heading.replaceAll(":.*", ""), oneLine(text.replaceAll("`[^`]*`:", "")));
            }
        }
        return parts;
    }

    /** Pairs of a part and the words that are quoted from it. */
    private static List<String[]> quotes() throws Exception {
        List<Path> tests;
        try (Stream<Path> files = Files.list(Path.of("src/test/java"))) {
            tests = files.filter(file -> file.toString().endsWith(".java")).collect(Collectors.toList());
        }
        List<String[]> quotes = new ArrayList<>();
        for (Path test : tests) {
            Matcher m = Pattern.compile("\\bquote\\(\\s*\"([^\"\n]*)\",\\s*\"([^\"\n]*)\"\\);").matcher(read(test));
            while (m.find()) {
                quotes.add(new String[] {m.group(1), m.group(2)});
            }
        }
        return quotes;
    }

    private static void cover(String text, boolean[] covered, String words) {
        for (int at = text.indexOf(words); at >= 0; at = text.indexOf(words, at + 1)) {
            Arrays.fill(covered, at, at + words.length(), true);
        }
    }

    private static void lookForGaps(String part, String text, boolean[] covered) {
        StringBuilder gap = new StringBuilder();
        for (int i = 0; i <= text.length(); i++) {
            if (i < text.length() && !covered[i]) {
                gap.append(text.charAt(i));
                continue;
            }
            if (gap.toString().matches(".*[A-Za-z0-9].*")) {
                fault(part + ": no test quotes <" + gap + ">");
            }
            gap.setLength(0);
        }
    }

    public static void main(String[] args) throws Exception {
        Map<String, String> parts = parts();
        Map<String, boolean[]> covered = new LinkedHashMap<>();
        for (String part : parts.keySet()) {
            covered.put(part, new boolean[parts.get(part).length()]);
        }
        List<String[]> quotes = quotes();
        for (String[] quote : quotes) {
            String text = parts.get(quote[0]);
            if (text == null || quote[1].isEmpty() || !text.contains(quote[1])) {
                fault("not in the document: " + quote[0] + ", \"" + quote[1] + "\"");
                continue;
            }
            cover(text, covered.get(quote[0]), quote[1]);
        }
        int looked = 0;
        for (String part : parts.keySet()) {
            if (part.startsWith("Terms") || part.startsWith("Promise ")) {
                looked++;
                lookForGaps(part, parts.get(part), covered.get(part));
            }
        }
        if (looked != 4 + 46) {
            fault("the document has " + looked + " parts of Terms and promises");
        }
        System.out.println(wrong == 0 ? quotes.size() + " quotes, and no words left out" : wrong + " faults of quotes");
        if (wrong != 0) {
            System.exit(1);
        }
    }
}
