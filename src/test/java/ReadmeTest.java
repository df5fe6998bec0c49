import java.io.ByteArrayOutputStream;
import java.io.File;
import java.io.IOException;
import java.nio.file.Files;
import java.nio.file.Path;
import java.util.ArrayList;
import java.util.List;
import java.util.regex.Matcher;
import java.util.regex.Pattern;

/** The example of README.md compiles and prints what its comments say; run from the project's directory. */
final class ReadmeTest {
    private static final Checks checks = new Checks();
    private static final Pattern PRINTED = Pattern.compile("println\\(.*\\);\\s*// (-?[0-9.]+):");

    public static void main(String[] args) throws IOException, InterruptedException {
        String readme = Files.readString(Path.of("README.md"));
        List<String> example = example(readme);
        checks.due("there is an example", example.isEmpty() ? 0 : 1, 1);
        List<String> due = answersDue(example);
        List<String> got = printed(example);
        checks.due("lines that the example prints", got.size(), due.size());
        for (int k = 0; k < got.size() && k < due.size(); k++) {
            String what = "line " + k + ", " + got.get(k) + " for " + due.get(k) + ": alike";
            checks.due(what, got.get(k).equals(due.get(k)) ? 1 : 0, 1);
        }
        everyTestIsNamed(readme);
        checks.end();
    }

    private static List<String> example(String readme) {
        List<String> lines = new ArrayList<>();
        boolean inside = false;
        for (String line : readme.split("\n")) {
            if (inside && line.equals("```")) {
                return lines;
            }
            if (inside) {
                lines.add(line);
            }
            inside = inside || line.equals("```java");
        }
        return lines;
    }

    private static List<String> answersDue(List<String> example) {
        List<String> due = new ArrayList<>();
        for (String line : example) {
            Matcher printed = PRINTED.matcher(line);
            if (printed.find()) {
                due.add(printed.group(1));
            }
        }
        return due;
    }

    private static List<String> printed(List<String> example) throws IOException, InterruptedException {
        Path directory = Files.createTempDirectory("readme");
        Path source = directory.resolve("Example.java");
        Files.write(source, example);
        String java = Path.of(System.getProperty("java.home"), "bin", "java").toString();
        // java runs a source file by itself, with the class from the class path
        Process run = new ProcessBuilder(java, "-cp", System.getProperty("java.class.path"), source.toString())
            .redirectErrorStream(true).start();
        ByteArrayOutputStream text = new ByteArrayOutputStream();
        run.getInputStream().transferTo(text);
        checks.due("the example's exit code", run.waitFor(), 0);
        Files.delete(source);
        Files.delete(directory);
        String all = text.toString().trim();
        return all.isEmpty() ? List.of() : List.of(all.split("\\R"));
    }

    private static void everyTestIsNamed(String readme) {
        File[] files = new File("src/test/java").listFiles();
        checks.due("there are tests", files == null || files.length == 0 ? 0 : 1, 1);
        for (File file : files == null ? new File[0] : files) {
            String name = file.getName().replace(".java", "");
            checks.due("README.md names " + name, readme.contains("`" + name) ? 1 : 0, 1);
        }
    }
}
