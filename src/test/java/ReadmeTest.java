import java.io.IOException;
import java.lang.reflect.Field;
import java.nio.file.Files;
import java.nio.file.Path;
import java.util.ArrayList;
import java.util.Comparator;
import java.util.List;
import java.util.Map;
import java.util.TreeMap;
import java.util.TreeSet;
import java.util.regex.Matcher;
import java.util.regex.Pattern;
import java.util.stream.Collectors;
import java.util.stream.Stream;

/**
 * What README.md says of commands and answers is so: its commands run (but for .ci/run, which runs this) and print
 * what it says, its calls answer what stands behind them, its tables name the constants, calls, ports and numbers
 * of the class, and every refusal of the tables is shown by a call.
 */
public final class ReadmeTest {
    private static final Path README = Path.of("README.md");
    private static final Path SOURCE = Path.of("src/main/java/GrindWorks.java");
    private static final Path TESTS = Path.of("src/test/java");
    private static final Path SHARED_TESTS = Path.of("../shared/tests");
    private static final Path CI = Path.of(".ci/run");

    private static final String REFUSAL = "NONE|BAD|STATE|FULL|NO";
    private static final Pattern ANSWERED = Pattern.compile(
        "((?:int|long) (\\w+) = )?(works\\.(\\w+)\\(.*\\));\\s*// answers (" + REFUSAL + "|-?\\d+)\\b.*");

    /** What stands between two lines of backquotes: its language, its lines, the number of the first of them. */
    private record Block(String language, List<String> lines, int first) {
        String text() {
            return String.join("\n", lines);
        }
    }

    private final Check check = new Check();
    private final List<String> readme;
    private final List<Block> blocks;
    private final Path room;

    private ReadmeTest(Path room) throws IOException {
        this.room = room;
        readme = Files.readAllLines(README);
        blocks = blocks(readme);
    }

    public static void main(String[] args) throws IOException, InterruptedException {
        Path room = Files.createTempDirectory("readme");
        ReadmeTest test = new ReadmeTest(room);
        try {
            test.lookAtConstants();
            test.lookAtKinds();
            test.lookAtCalls();
            test.lookAtNamesOfTests();
            test.copyProject();
            test.writePrograms();
            test.runBlocks();
            test.askOneByOne();
        } finally {
            remove(room);
        }
        test.check.end();
    }

    private static List<Block> blocks(List<String> lines) {
        List<Block> blocks = new ArrayList<>();
        Block open = null;
        for (int i = 0; i < lines.size(); i++) {
            String line = lines.get(i);
            if (!line.startsWith("```")) {
                if (open != null) {
                    open.lines().add(line);
                }
            } else if (open != null) {
                blocks.add(open);
                open = null;
            } else {
                open = new Block(line.substring(3), new ArrayList<>(), i + 2);
            }
        }
        return blocks;
    }

    private void holds(String what, boolean isSo) {
        check.due(what, isSo ? 1 : 0, 1);
    }

    // ---- tables

    /** The cells of each row that begins as told. */
    private List<String[]> rows(String beginning) {
        List<String[]> rows = new ArrayList<>();
        for (String line : readme) {
            if (line.matches("\\| " + beginning + ".*\\|")) {
                rows.add(Stream.of(line.substring(1).split("\\|")).map(String::trim).toArray(String[]::new));
            }
        }
        return rows;
    }

    private void lookAtConstants() throws IOException {
        Map<String, Long> told = new TreeMap<>();
        for (String[] row : rows("`[A-Z]+` \\| -")) {
            told.put(row[0].replace("`", ""), Long.valueOf(row[1]));
        }
        Map<String, Long> are = new TreeMap<>();
        for (Field field : GrindWorks.class.getFields()) {
            are.put(field.getName(), valueOf(field));
        }
        holds("the constants are " + are + ", README.md tells " + told, are.equals(told));
    }

    private static long valueOf(Field field) throws IOException {
        try {
            return field.getLong(null);
        } catch (IllegalAccessException e) {
            throw new IOException(e);
        }
    }

    private void lookAtKinds() {
        List<String[]> rows = rows("\\d \\| [A-Z]+ ");
        check.due("kinds in README.md", rows.size(), 8);
        for (int kind = 0; kind < rows.size(); kind++) {
            String[] row = rows.get(kind);
            check.due("row of " + row[1], Long.parseLong(row[0]), kind);
            GrindWorks x = new GrindWorks();
            x.unit(kind);
            x.unit(Works.END);
            for (int port = 0; port < 3; port++) {
                x.lead(0, port, 1);
                holds(row[1] + " has PORT " + port + " as README.md says",
                    (x.lead(0, port, 1) == 1) == row[2].contains(Integer.toString(port)));
            }
            lookAtNumbers(x, row);
        }
    }

    /** "0 .. 1000, 0": the least, the greatest, and what it is at first. */
    private void lookAtNumbers(GrindWorks x, String[] row) {
        Matcher m = Pattern.compile("(\\d+) \\.\\. (\\d+), (\\d+)$").matcher(row[4]);
        if (!m.find()) {
            return;
        }
        int least = Integer.parseInt(m.group(1));
        int greatest = Integer.parseInt(m.group(2));
        int first = Integer.parseInt(m.group(3));
        String call = row[3].replace("`", "");
        check.due(row[1] + " below the least", new Call(call, 0, 0, least - 1).on(x), GrindWorks.BAD);
        check.due(row[1] + " above the greatest", new Call(call, 0, 0, greatest + 1).on(x), GrindWorks.BAD);
        check.due(row[1] + " the least, where the first was", new Call(call, 0, 0, least).on(x), first);
        check.due(row[1] + " the greatest, where the least was", new Call(call, 0, 0, greatest).on(x), least);
        check.due(row[1] + " told", x.told(0, 0), greatest);
    }

    /** The table has the calls of the face, and the refusals that it tells of each are those that a call shows. */
    private void lookAtCalls() throws IOException {
        Map<String, TreeSet<String>> shown = refusalsShown();
        TreeSet<String> calls = new TreeSet<>();
        for (String[] row : rows("`\\w+\\(")) {
            String call = row[0].replace("`", "");
            calls.add(call);
            TreeSet<String> told = new TreeSet<>();
            Matcher m = Pattern.compile("`(" + REFUSAL + ")`").matcher(row.length > 2 ? row[2] : "");
            while (m.find()) {
                told.add(m.group(1));
            }
            TreeSet<String> seen = shown.get(call.substring(0, call.indexOf('(')));
            holds(call + " refuses with " + told + ", README.md shows " + seen, told.equals(seen));
        }
        TreeSet<String> face = callsOfClass();
        holds("the calls are " + face + ", README.md tells " + calls, face.equals(calls));
    }

    private Map<String, TreeSet<String>> refusalsShown() {
        Map<String, TreeSet<String>> shown = new TreeMap<>();
        for (Block block : snippets()) {
            for (String line : block.lines()) {
                Matcher m = ANSWERED.matcher(line);
                if (m.matches()) {
                    TreeSet<String> ofCall = shown.computeIfAbsent(m.group(4), name -> new TreeSet<>());
                    if (m.group(5).matches(REFUSAL)) {
                        ofCall.add(m.group(5));
                    }
                }
            }
        }
        return shown;
    }

    private static TreeSet<String> callsOfClass() throws IOException {
        TreeSet<String> calls = new TreeSet<>();
        Matcher m = Pattern.compile("    public (?:int|long) (\\w+\\([^)]*\\)) \\{").matcher(Files.readString(SOURCE));
        while (m.find()) {
            calls.add(m.group(1).replace("int ", ""));
        }
        return calls;
    }

    private void lookAtNamesOfTests() {
        Matcher m = Pattern.compile("`(\\w+Test)`").matcher(String.join("\n", readme));
        while (m.find()) {
            holds("there is a test " + m.group(1), Files.exists(TESTS.resolve(m.group(1) + ".java")));
        }
    }

    // ---- commands

    private Path project() {
        return room.resolve("main");
    }

    /** The commands write files, so they are run in a copy. */
    private void copyProject() throws IOException {
        copyFiles(SOURCE.getParent(), project().resolve(SOURCE.getParent()));
        copyFiles(TESTS, project().resolve(TESTS));
        if (Files.exists(SHARED_TESTS)) {
            copyFiles(SHARED_TESTS, room.resolve("shared/tests"));
        }
    }

    private static void copyFiles(Path from, Path to) throws IOException {
        Files.createDirectories(to);
        try (Stream<Path> files = Files.list(from)) {
            for (Path file : files.filter(Files::isRegularFile).collect(Collectors.toList())) {
                Files.write(to.resolve(file.getFileName()), Files.readAllBytes(file));
            }
        }
    }

    private void writePrograms() throws IOException {
        for (Block block : blocks) {
            Matcher m = Pattern.compile("public final class (\\w+)").matcher(block.text());
            if (block.language().equals("java") && m.find()) {
                Files.writeString(project().resolve(m.group(1) + ".java"), block.text());
            }
        }
    }

    private void runBlocks() throws IOException, InterruptedException {
        for (int i = 0; i < blocks.size(); i++) {
            Block block = blocks.get(i);
            if (!block.language().equals("sh")) {
                continue;
            }
            if (block.text().equals(CI.toString())) {
                // It runs this test, so it is not run from here.
                holds(CI + " can be run", Files.isExecutable(CI));
            } else if (isAllThere(block)) {
                boolean hasOutput = i + 1 < blocks.size() && blocks.get(i + 1).language().equals("text");
                runCommands("README.md, line " + block.first(), block.text(), hasOutput ? blocks.get(i + 1).text() : null);
            }
        }
    }

    /** The tests under ../shared may be others one day. */
    private static boolean isAllThere(Block block) {
        Matcher m = Pattern.compile("\\.\\./shared/\\S+").matcher(block.text());
        boolean isThere = true;
        while (m.find()) {
            isThere = isThere && Files.exists(Path.of(m.group()));
        }
        return isThere;
    }

    private void runCommands(String name, String commands, String output) throws IOException, InterruptedException {
        Process process = new ProcessBuilder("sh", "-e", "-c", commands)
            .directory(project().toFile()).redirectError(ProcessBuilder.Redirect.INHERIT).start();
        String printed = new String(process.getInputStream().readAllBytes()).trim();
        check.due(name + ":\n" + commands + "\nprinted\n" + printed + "\nand at its end", process.waitFor(), 0);
        if (output != null) {
            holds(name + ":\n" + commands + "\nprinted\n" + printed + "\nand README.md says\n" + output + "\nwhich",
                printed.equals(output));
        }
    }

    // ---- calls one by one

    private List<Block> snippets() {
        return blocks.stream().filter(b -> b.language().equals("java") && !b.text().contains("class "))
            .collect(Collectors.toList());
    }

    /** The blocks without a class are one program; each of its calls is asked for the answer behind it. */
    private void askOneByOne() throws IOException, InterruptedException {
        StringBuilder program = new StringBuilder("public final class OneByOne {\n");
        program.append("public static void main(String[] args) {\nCheck check = new Check();\n");
        for (Block block : snippets()) {
            for (int i = 0; i < block.lines().size(); i++) {
                program.append(asked(block.lines().get(i), block.first() + i)).append('\n');
            }
        }
        program.append("check.end();\n}\n}\n");
        Files.writeString(project().resolve("OneByOne.java"), program);
        runCommands("the calls one by one",
            "javac -d one src/main/java/GrindWorks.java src/test/java/Check.java OneByOne.java\njava -cp one OneByOne", null);
    }

    private String asked(String line, int number) {
        Matcher m = ANSWERED.matcher(line);
        boolean isCall = line.matches("(?:(?:int|long) \\w+ = )?works\\..*");
        holds("README.md, line " + number + " tells an answer: " + line, m.matches() == (isCall || line.contains("answers")));
        if (!m.matches()) {
            return line;
        }
        String due = m.group(5).matches(REFUSAL) ? "GrindWorks." + m.group(5) : m.group(5) + "L";
        String named = "check.due(\"README.md, line " + number + ": " + m.group(3) + "\", ";
        boolean isKept = m.group(1) != null;
        return (isKept ? m.group(1) + m.group(3) + "; " : "") + named + (isKept ? m.group(2) : m.group(3)) + ", " + due + ");";
    }

    private static void remove(Path room) throws IOException {
        try (Stream<Path> files = Files.walk(room)) {
            for (Path file : files.sorted(Comparator.reverseOrder()).collect(Collectors.toList())) {
                Files.delete(file);
            }
        }
    }
}
