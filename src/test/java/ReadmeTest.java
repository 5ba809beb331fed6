import java.io.IOException;
import java.lang.reflect.Method;
import java.lang.reflect.Modifier;
import java.nio.file.Files;
import java.nio.file.Path;
import java.nio.file.StandardCopyOption;
import java.util.ArrayList;
import java.util.List;
import java.util.Set;
import java.util.TreeSet;
import java.util.regex.Matcher;
import java.util.regex.Pattern;
import java.util.stream.Collectors;
import java.util.stream.Stream;

/**
 * What README.md says: the calls and their answers, the program and what it prints, the commands, and which tests there
 * are. It is started from the directory of README.md; the path of the program is the first argument.
 */
final class ReadmeTest {
    private static final Path HERE = Path.of("");
    private static final Pattern CALL = Pattern.compile("(?:int (\\w+) = )?(mine\\.\\w+\\(.*\\));(?: *// (.*))?");

    /** What is run for the blocks of calls, and the answers that are due. */
    private final StringBuilder code = new StringBuilder();
    private final List<String> calls = new ArrayList<>();
    private final List<String> dues = new ArrayList<>();

    public static void main(String[] args) throws IOException, InterruptedException {
        if (args.length == 0) {
            System.out.println("ReadmeTest wants the path of the program");
            System.exit(1);
        }
        String text = Files.readString(Path.of("README.md"));
        Path room = roomWith(Path.of(args[0]));
        theCallsAndTheirAnswers(text, room);
        everyCallIsTold(text);
        theProgramAndWhatItPrints(text, room);
        theTableOfTests(text);
        theCommandsOfTheTests(text);
        Check.end("ReadmeTest");
    }

    /** A directory of its own, with the program where README.md says that it is, so that no file is left here. */
    private static Path roomWith(Path program) throws IOException {
        Path room = Path.of("build/ci/readme");
        Path copy = room.resolve("src/main/java/MineHoist.java");
        Files.createDirectories(copy.getParent());
        Files.copy(program, copy, StandardCopyOption.REPLACE_EXISTING);
        return room;
    }

    private static void theCallsAndTheirAnswers(String text, Path room) throws IOException, InterruptedException {
        ReadmeTest test = new ReadmeTest();
        test.code.append("final class Calls {\n    interface Call { Object ask(); }\n");
        test.code.append("    static void tell(Call call) {\n        try {\n");
        test.code.append("            Object a = call.ask();\n");
        test.code.append("            System.out.println(a instanceof Character ? \"'\" + a + \"'\" : \"\" + a);\n");
        test.code.append("        } catch (RuntimeException e) {\n");
        test.code.append("            System.out.println(\"throws \" + e.getClass().getSimpleName());\n");
        test.code.append("        }\n    }\n    public static void main(String[] args) {\n");
        for (String block : blocks(text, "java")) {
            if (!block.contains("class ")) {
                test.take(block);
            }
        }
        test.code.append("    }\n}\n");
        Files.writeString(room.resolve("Calls.java"), test.code);
        String[] told = run(room, "javac -d calls src/main/java/MineHoist.java Calls.java && java -cp calls Calls")
                .split("\n");
        Check.due("the number of answers", test.dues.size(), told.length);
        for (int i = 0; i < told.length && i < test.dues.size(); i++) {
            Check.due(test.calls.get(i), test.dues.get(i), told[i]);
        }
    }

    /** A block of calls on a new mine; the comment behind a call begins with its answer. */
    private void take(String block) {
        code.append("        {\n");
        for (String line : block.split("\n")) {
            Matcher call = CALL.matcher(line);
            if (!call.matches()) {
                Check.due("a line of a block of calls", "MineHoist mine = new MineHoist();", line);
                code.append(line).append('\n');
                continue;
            }
            String name = call.group(1);
            String asked = call.group(2);
            String comment = call.group(3);
            if (name != null || comment == null) {
                code.append(name != null ? "int " + name + " = " : "").append(asked).append(";\n");
            }
            if (comment != null) {
                code.append("tell(() -> ").append(name != null ? name : asked).append(");\n");
                calls.add(asked);
                dues.add(comment.split(":")[0]);
            }
        }
        code.append("        }\n");
    }

    private static void everyCallIsTold(String text) {
        String blocks = String.join("\n", blocks(text, "java"));
        for (Method method : MineHoist.class.getDeclaredMethods()) {
            if (Modifier.isPublic(method.getModifiers())) {
                String call = "mine." + method.getName() + "(";
                Check.due("README.md tells of " + call, true, blocks.contains(call));
            }
        }
    }

    private static void theProgramAndWhatItPrints(String text, Path room) throws IOException, InterruptedException {
        String program = blocks(text, "java").get(0);
        Check.due("the first block is the program", true, program.startsWith("public final class Shift {"));
        Files.writeString(room.resolve("Shift.java"), program);
        List<String> commands = commands(text);
        Check.due("the command that runs the program", "java -cp build/use Shift", commands.get(1));
        run(room, commands.get(0));
        Check.due("what the program prints", blocks(text, "").get(0), run(room, commands.get(1)));
    }

    private static void theTableOfTests(String text) throws IOException {
        Set<String> told = new TreeSet<>();
        Matcher row = Pattern.compile("\n\\| `(\\w+)` \\|").matcher(text);
        while (row.find()) {
            told.add(row.group(1));
        }
        try (Stream<Path> files = Files.list(Path.of("src/test/java"))) {
            Set<String> names = files.map(file -> file.getFileName().toString())
                    .filter(name -> name.endsWith("Test.java")).map(name -> name.replace(".java", ""))
                    .collect(Collectors.toCollection(TreeSet::new));
            Check.due("the tests of the table", names, told);
        }
    }

    /** All but .ci/run, which runs this test. */
    private static void theCommandsOfTheTests(String text) throws IOException, InterruptedException {
        List<String> commands = commands(text);
        Check.due("the commands", 5, commands.size());
        Check.due("the command for all tests", ".ci/run", commands.get(2));
        Check.due(".ci/run can be run", true, Files.isExecutable(Path.of(".ci/run")));
        for (String command : commands.subList(3, 5)) {
            String told = run(HERE, command);
            Check.due(command + " tells that it has passed", true, told.contains(" answers, 0 not as due"));
        }
    }

    /** The lines that are set in by four blanks outside of the blocks. */
    private static List<String> commands(String text) {
        String plain = text.replaceAll("(?s)```.*?```", "");
        return plain.lines().filter(line -> line.startsWith("    ")).map(String::strip).collect(Collectors.toList());
    }

    private static List<String> blocks(String text, String language) {
        List<String> blocks = new ArrayList<>();
        Matcher block = Pattern.compile("(?s)```(\\w*)\n(.*?)```").matcher(text);
        while (block.find()) {
            if (block.group(1).equals(language)) {
                blocks.add(block.group(2));
            }
        }
        return blocks;
    }

    private static String run(Path directory, String command) throws IOException, InterruptedException {
        Process process = new ProcessBuilder("sh", "-c", command).directory(directory.toAbsolutePath().toFile())
                .redirectErrorStream(true).start();
        String told = new String(process.getInputStream().readAllBytes());
        int status = process.waitFor();
        Check.due("'" + command + "' ends with 0: " + told, 0, status);
        return told;
    }
}
