import java.io.IOException;
import java.nio.file.Files;
import java.nio.file.Path;
import java.util.regex.Matcher;
import java.util.regex.Pattern;

/** The rules of LANGUAGE.md that can be read off the text of the class: words, imports and lengths. */
public final class LanguageTest {
    private static final Path SOURCE = Path.of("src/main/java/GrindWorks.java");

    /** Rules 2, 4, 5, 6, 13: what the text may not hold, as patterns. */
    private static final String[] RULED_OUT = {
        "\\bthrows?\\b", "\\btry\\b", "\\bcatch\\b", "\\bsynchronized\\b", "\\bassert\\b", "\\bpackage\\b", "->", "::",
        "\\w+Exact\\b", "\\bequals\\b", "\\bhashCode\\b", "\\btoString\\b", "\\bvalues\\(", "static \\{", "\\bThread\\b",
        "\\bRandom\\b", "\\bSystem\\.(?!arraycopy\\b)", "\\bMap\\b", "\\bSet\\b", "\\bObject\\b", "\\[\\]\\[\\]\\[\\]", "@"};

    public static void main(String[] args) throws IOException {
        Check check = new Check();
        String text = Files.readString(SOURCE);
        String code = text.replaceAll("(?s)/\\*.*?\\*/", "").replaceAll("//[^\n]*", "");
        for (String pattern : RULED_OUT) {
            check.due("how often " + pattern + " stands in the class", count(code, pattern), 0);
        }
        check.due("imports", count(code, "(?m)^import "), count(code, "(?m)^import java\\.util\\.(Arrays|ArrayList|List|Iterator);"));
        check.due("static fields that are not final", count(code, "\\bstatic (?!final\\b)[\\w\\[\\]]+ \\w+ *[=;]"), 0);
        check.due("classes beyond twelve", Math.max(0, count(code, "\\b(class|record|enum|interface) [A-Z]") - 12), 0);
        check.due("lines of the longest method beyond sixty", Math.max(0, longestMethod(code) - 60), 0);
        check.end();
    }

    private static int count(String code, String pattern) {
        Matcher m = Pattern.compile(pattern).matcher(code);
        int count = 0;
        while (m.find()) {
            count++;
        }
        return count;
    }

    /** Lines from a method's head to the brace that stands below its first letter. */
    private static int longestMethod(String code) {
        String[] lines = code.split("\n");
        Pattern head = Pattern.compile("^( {4}| {8})(?!return|if|for|while|switch)[\\w\\[\\] ]+\\([^;=]*\\) \\{$");
        int longest = 0;
        for (int i = 0; i < lines.length; i++) {
            Matcher m = head.matcher(lines[i]);
            if (m.matches()) {
                int end = i;
                while (end < lines.length - 1 && !lines[end].equals(m.group(1) + "}")) {
                    end++;
                }
                longest = Math.max(longest, end - i + 1);
            }
        }
        return longest;
    }
}
