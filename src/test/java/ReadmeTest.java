import java.io.File;
import java.lang.reflect.Method;
import java.lang.reflect.Modifier;
import java.nio.file.Files;
import java.nio.file.Path;
import java.util.ArrayList;
import java.util.List;
import java.util.Set;
import java.util.TreeSet;
import java.util.regex.Matcher;
import java.util.regex.Pattern;

/**
 * The examples of README.md answer as it says: its blocks of Java are made one program, in which each call with an answer
 * behind it is compared. Every call is shown there, and every refusal.
 */
public final class ReadmeTest {
    private static final Pattern BLOCK = Pattern.compile("(?s)```java\n(.*?)```");
    private static final Pattern CALL = Pattern.compile("dinner\\.(\\w+)\\(");
    private static final Pattern TOLD = Pattern.compile("(dinner\\.\\w+\\([^\"]*\\));\\s*// (-?\\d+): .+");
    private static final long[] REFUSALS = {-1, -2, -3, -4, -5, -6, -7, -11, -12, -13, -14, -100, -1000, StalemateDinner.NO};

    public static void main(String[] args) throws Exception {
        String readme = Files.readString(Path.of("README.md"));
        Set<String> shown = new TreeSet<>();
        Set<Long> answers = new TreeSet<>();
        List<String> program = program(readme, shown, answers);
        for (Method m : StalemateDinner.class.getDeclaredMethods()) {
            if (Modifier.isPublic(m.getModifiers())) {
                Check.due("an example of " + m.getName(), shown.contains(m.getName()) ? 1 : 0, 1);
            }
        }
        for (long refusal : REFUSALS) {
            Check.due("an example that answers " + refusal, answers.contains(refusal) ? 1 : 0, 1);
            Check.due("a row for " + refusal, readme.contains("\n| " + refusal + " ") ? 1 : 0, 1);
        }
        run(program);
        Check.end();
    }

    /** The lines of one program. A line that begins with a call must tell its answer; the others are left as they are. */
    private static List<String> program(String readme, Set<String> shown, Set<Long> answers) {
        List<String> program = new ArrayList<>(List.of("public final class ReadmeExample {", "public static void main(String[] args) {"));
        Matcher block = BLOCK.matcher(readme);
        while (block.find()) {
            for (String line : block.group(1).split("\n")) {
                Matcher call = CALL.matcher(line);
                if (call.find()) {
                    shown.add(call.group(1));
                }
                Matcher told = TOLD.matcher(line);
                if (told.matches()) {
                    answers.add(Long.parseLong(told.group(2)));
                    program.add("Check.due(\"README: " + told.group(1) + "\", " + told.group(1) + ", " + told.group(2) + "L);");
                } else {
                    Check.due("an answer is told behind: " + line, line.startsWith("dinner.") ? 1 : 0, 0);
                    program.add(line);
                }
            }
        }
        program.addAll(List.of("Check.end();", "}", "}"));
        return program;
    }

    private static void run(List<String> program) throws Exception {
        Path place = Files.createTempDirectory("readme");
        Path source = place.resolve("ReadmeExample.java");
        Path made = place.resolve("ReadmeExample.class");
        String here = System.getProperty("java.class.path");
        try {
            Files.write(source, program);
            int failed = command("javac", "-encoding", "UTF-8", "-cp", here, "-d", place.toString(), source.toString());
            Check.due("javac of README's examples", failed, 0);
            if (failed == 0) {
                Check.due("README's examples", command("java", "-cp", place + File.pathSeparator + here, "ReadmeExample"), 0);
            }
        } finally {
            for (Path path : List.of(source, made, place)) {
                Files.deleteIfExists(path);
            }
        }
    }

    private static int command(String... words) throws Exception {
        return new ProcessBuilder(words).inheritIO().start().waitFor();
    }
}
