import java.io.IOException;
import java.nio.file.Files;
import java.nio.file.Path;
import java.util.ArrayList;
import java.util.Arrays;
import java.util.LinkedHashMap;
import java.util.List;
import java.util.Map;
import java.util.TreeMap;
import java.util.regex.Matcher;
import java.util.regex.Pattern;
import java.util.stream.Collectors;
import java.util.stream.Stream;

/**
 * The sentences that tests name (check.sentence) stand in the document, in the section that they name; and
 * every word of those sections stands in a sentence that a test names, but for the few that name no edge.
 */
public final class SentencesTest {
    private static final Path DOCUMENT = Path.of("../shared/DOC.md");
    private static final Path TESTS = Path.of("src/test/java");

    /** What names no edge: what the works are for, headings, where the interface puts its lines. */
    private static final String[][] NO_EDGE = {
        {"What it is", "Works that grind and float: feeds, joins, mills that break sizes, parts by size and by stuff with"
            + " what is left over kept to the last tenth, tanks that hold for minutes, piles that give whole lots, ends;"
            + " minute by minute in whole numbers so that stuff never goes lost; feeds stopped and started by a pile's"
            + " level, readings made to close, lots chosen for a blend, and what is lost led back to where it left."},
        {"What it is", "======== 1"},
        {"Terms 4", "Ahead of the calls `hold`, `about`, `told`, `sum`, `ledBack` the interface says: ---- looking."},
        {"Terms 4", "Ahead of the calls `reading`, `close` the interface says: ---- readings."},
        {"Terms 4", "Ahead of the calls `load`, `unload`, `blend`, `count` the interface says: ---- blends."}};

    private static final Pattern NAMED = Pattern.compile("check\\.sentence\\(\\s*\"([^\"]+)\",\\s*((?:\"[^\"]*\"[\\s+]*)+)\\)");

    public static void main(String[] args) throws IOException {
        Check check = new Check();
        if (Files.exists(DOCUMENT)) {
            lookAt(check, sections(Files.readString(DOCUMENT)));
        } else {
            System.out.println("the document is not here to be looked at");
        }
        check.end();
    }

    private static void lookAt(Check check, Map<String, String> sections) throws IOException {
        Map<String, boolean[]> named = new TreeMap<>();
        sections.forEach((where, text) -> named.put(where, new boolean[text.length()]));
        List<String[]> sentences = new ArrayList<>(Arrays.asList(NO_EDGE));
        sentences.addAll(sentencesOfTests());
        for (String[] sentence : sentences) {
            boolean stands = mark(sections.get(sentence[0]), named.get(sentence[0]), sentence[1]);
            check.due(sentence[0] + ", \"" + sentence[1] + "\" stands in the document", stands ? 1 : 0, 1);
        }
        sections.forEach((where, text) -> {
            String left = notNamed(text, named.get(where));
            check.due(where + " has words that no test names: " + left, left.isEmpty() ? 0 : 1, 0);
        });
    }

    /** The text of "What it is", of "Terms 1" to "Terms 4", of "Promise 1" to "Promise 20", each on one line. */
    private static Map<String, String> sections(String document) {
        Map<String, String> sections = new LinkedHashMap<>();
        for (String part : document.split("(?m)^## ")) {
            String heading = part.substring(0, part.indexOf('\n')).split(":")[0].trim();
            String text = oneLine(part.substring(part.indexOf('\n')));
            if (heading.equals("Terms")) {
                String[] parts = text.split("======== \\d ");
                for (int i = 0; i < parts.length; i++) {
                    sections.put("Terms " + (i + 1), parts[i]);
                }
            } else if (heading.startsWith("Promise") || heading.equals("What it is")) {
                // A promise begins with its call: `int unit(int kind)`: and so on.
                sections.put(heading, text.replaceFirst("^`(int|long) [^`]*`: ", ""));
            }
        }
        return sections;
    }

    private static String oneLine(String text) {
        return text.replaceAll("```\\w*", " ").replaceAll("\\s+", " ").trim();
    }

    private static List<String[]> sentencesOfTests() throws IOException {
        List<String[]> sentences = new ArrayList<>();
        try (Stream<Path> files = Files.list(TESTS)) {
            for (Path file : files.sorted().collect(Collectors.toList())) {
                Matcher m = NAMED.matcher(Files.readString(file));
                while (m.find()) {
                    String words = m.group(2).trim().replaceAll("\"\\s*\\+\\s*\"", "");
                    sentences.add(new String[] {m.group(1), words.substring(1, words.length() - 1)});
                }
            }
        }
        return sentences;
    }

    private static boolean mark(String text, boolean[] named, String words) {
        int at = text == null ? -1 : text.indexOf(words);
        boolean stands = at >= 0;
        while (at >= 0) {
            Arrays.fill(named, at, at + words.length(), true);
            at = text.indexOf(words, at + 1);
        }
        return stands;
    }

    private static String notNamed(String text, boolean[] named) {
        StringBuilder left = new StringBuilder();
        for (int i = 0; i < named.length; i++) {
            left.append(named[i] ? ' ' : text.charAt(i));
        }
        return left.toString().replaceAll("[^A-Za-z0-9]+", " ").trim();
    }
}
