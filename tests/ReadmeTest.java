import java.io.File;
import java.io.IOException;
import java.io.UncheckedIOException;
import java.nio.file.Files;
import java.nio.file.Path;
import java.util.ArrayList;
import java.util.List;
import java.util.regex.Matcher;
import java.util.regex.Pattern;
import java.util.stream.Stream;

/**
 * README.md is true: its example answers as the comments behind the calls say, and its commands work as
 * they stand there, each in a copy of the project, so that this test leaves nothing behind.
 */
public final class ReadmeTest {
  private static final Pattern ANSWER = Pattern.compile("^(\\s*)(?:int (\\w+) = )?(.+);\\s+// ([^:]+)(?::.*)?$");
  /** It runs this test, so this test cannot run it. */
  private static final String ALL_TESTS = ".ci/run";

  private static int wrong = 0;

  public static void main(String[] args) throws IOException, InterruptedException {
    List<String> readme = Files.readAllLines(Path.of("README.md"));
    Path room = Files.createTempDirectory("readme");
    try {
      checkExample(blocks(readme, "java"), room);
      checkCommands(blocks(readme, "sh"), room);
    } finally {
      delete(room);
    }
    System.out.println(wrong == 0 ? "the example and the commands are true" : wrong + " checks failed");
    if (wrong != 0) {
      System.exit(1);
    }
  }

  private static void check(boolean holds, String what) {
    if (!holds) {
      wrong++;
      System.out.println("not so: " + what);
    }
  }

  /** The lines of all blocks of a language, one after the other. */
  private static List<String> blocks(List<String> readme, String language) {
    List<String> lines = new ArrayList<>();
    boolean inside = false;
    for (String line : readme) {
      if (line.startsWith("```")) {
        inside = line.equals("```" + language);
      } else if (inside) {
        lines.add(line);
      }
    }
    check(!lines.isEmpty(), "README.md has something in " + language);
    return lines;
  }

  private static void checkExample(List<String> lines, Path room) throws IOException, InterruptedException {
    StringBuilder program = new StringBuilder();
    int answers = 0;
    for (String line : lines) {
      Matcher matcher = ANSWER.matcher(line);
      if (matcher.matches()) {
        answers++;
        program.append(comparing(matcher));
      } else {
        program.append(line).append('\n');
      }
    }
    check(answers > 0, "the example tells answers");
    Path file = room.resolve("Example.java");
    Files.writeString(file, "public class Example {\n"
        + "static int told = 0;\n"
        + "static void due(String call, Object answer, String due) {\n"
        + "told++;\n"
        + "if (!due.equals(String.valueOf(answer))) {\n"
        + "throw new AssertionError(call + \" answered \" + answer + \" and not \" + due);\n"
        + "}\n"
        + "}\n"
        + "public static void main(String[] args) {\n"
        + program
        + "due(\"the number of answers\", told, \"" + answers + "\");\n"
        + "}\n"
        + "}\n");
    String java = Path.of(System.getProperty("java.home"), "bin", "java").toString();
    check(run(room, List.of(java, "-cp", absoluteClassPath(), file.toString())), "the example of README.md");
  }

  /** The class path names folders as seen from here, and the example runs elsewhere. */
  private static String absoluteClassPath() {
    List<String> entries = new ArrayList<>();
    for (String entry : System.getProperty("java.class.path").split(File.pathSeparator)) {
      entries.add(Path.of(entry).toAbsolutePath().toString());
    }
    return String.join(File.pathSeparator, entries);
  }

  private static String comparing(Matcher line) {
    String name = line.group(2);
    String call = line.group(3);
    String answer = name == null ? call : name;
    String declaration = name == null ? "" : "int " + name + " = " + call + ";\n";
    return declaration + "due(\"" + call.replace("\"", "\\\"") + "\", " + answer + ", \"" + line.group(4) + "\");\n";
  }

  private static void checkCommands(List<String> commands, Path room) throws IOException, InterruptedException {
    Path project = Files.createDirectory(room.resolve("main"));
    for (String part : List.of("README.md", "src", "tests", ".ci")) {
      copy(Path.of(part), project.resolve(part));
    }
    copy(Path.of("..", "shared"), room.resolve("shared"));
    check(commands.contains(ALL_TESTS), "README.md tells how to run all tests");
    for (String command : commands) {
      if (command.equals(ALL_TESTS)) {
        check(Files.isExecutable(project.resolve(ALL_TESTS)), ALL_TESTS + " is executable");
      } else {
        check(run(project, List.of("bash", "-c", command)), "the command of README.md works: " + command);
      }
    }
  }

  /** Whether the command ends well; what it prints is told only if it does not. */
  private static boolean run(Path folder, List<String> command) throws IOException, InterruptedException {
    Process process = new ProcessBuilder(command).directory(folder.toFile()).redirectErrorStream(true).start();
    process.getOutputStream().close();
    String printed = new String(process.getInputStream().readAllBytes());
    boolean endsWell = process.waitFor() == 0;
    if (!endsWell) {
      System.out.print(printed);
    }
    return endsWell;
  }

  private static void copy(Path from, Path to) throws IOException {
    if (Files.isDirectory(from)) {
      Files.createDirectories(to);
      for (Path inside : listed(from)) {
        copy(inside, to.resolve(inside.getFileName()));
      }
    } else {
      Files.copy(from, to);
    }
  }

  private static void delete(Path path) {
    try {
      if (Files.isDirectory(path)) {
        for (Path inside : listed(path)) {
          delete(inside);
        }
      }
      Files.delete(path);
    } catch (IOException e) {
      throw new UncheckedIOException(e);
    }
  }

  private static List<Path> listed(Path folder) throws IOException {
    try (Stream<Path> paths = Files.list(folder)) {
      return paths.sorted().toList();
    }
  }
}
