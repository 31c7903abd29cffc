import java.io.File;
import java.io.IOException;
import java.nio.charset.StandardCharsets;
import java.nio.file.Files;
import java.nio.file.Path;
import java.util.ArrayList;
import java.util.Comparator;
import java.util.List;
import java.util.Set;
import java.util.TreeSet;
import java.util.regex.Matcher;
import java.util.regex.Pattern;
import java.util.stream.Collectors;
import java.util.stream.Stream;

/**
 * What README.md says of how the class is used and how its tests are run: its Java answers what is
 * said behind it, its commands work, it names each test, and .ci/run fails as it says. All this is
 * done in a copy with few tests: this one in it would call itself without an end.
 */
public final class ReadmeTest {
  private static final Check CHECK = new Check();
  private static final List<String> FEW =
      List.of("Check.java", "Whole.java", "Model.java", "ModelTest.java", "LotTest.java");
  private static final Path TESTS = Path.of("src/test/java");
  private static final String PASSING = "public final class %s {"
      + " public static void main(String[] a) { System.out.println(new PulledFromUnder().count(0)); } }";
  private static final String FAILING = "public final class %s {"
      + " public static void main(String[] a) { System.exit(new PulledFromUnder().count(5)); } }";
  private static final String THROWING = "public final class %s {"
      + " public static void main(String[] a) { throw new IllegalStateException(); } }";
  private static final String NO_JAVA = "public final class %s { int }";

  public static void main(String[] args) throws IOException, InterruptedException {
    String readme = Files.readString(Path.of("README.md"));
    namesEachTest(readme);
    namesEachPromise(readme);
    Path root = Files.createTempDirectory("readme");
    try {
      Path project = copyOfProject(root);
      commandsWork(project, blocks(readme, "sh"));
      javaAnswers(root, blocks(readme, "java"));
      ciFailsAsItSays(project);
    } finally {
      remove(root);
    }
    CHECK.end();
  }

  private static List<String> blocks(String readme, String language) {
    List<String> blocks = new ArrayList<>();
    Matcher block = Pattern.compile("```" + language + "\n(.*?)```", Pattern.DOTALL).matcher(readme);
    while (block.find()) {
      blocks.add(block.group(1));
    }
    return blocks;
  }

  // ---- what it names

  private static void namesEachTest(String readme) throws IOException {
    Set<String> named = new TreeSet<>();
    Matcher name = Pattern.compile("`([A-Z][A-Za-z]*)`").matcher(readme);
    while (name.find()) {
      named.add(name.group(1));
    }
    Set<String> files = new TreeSet<>();
    try (Stream<Path> all = Files.list(TESTS)) {
      all.forEach(file -> files.add(file.getFileName().toString().replace(".java", "")));
    }
    CHECK.due("README.md names " + named + ", there are " + files + ":",
        named.equals(files) ? 1 : 0, 1);
  }

  private static void namesEachPromise(String readme) {
    Set<Integer> named = new TreeSet<>();
    Matcher pieces = Pattern.compile("`\\w+Test`\\s+\\((promises )?([0-9 to,\n]+)\\)").matcher(readme);
    while (pieces.find()) {
      for (String piece : pieces.group(2).split(",")) {
        String[] ends = piece.strip().split("\\s+to\\s+");
        int last = Integer.parseInt(ends[ends.length - 1]);
        for (int promise = Integer.parseInt(ends[0]); promise <= last; promise++) {
          CHECK.due("promise " + promise + " is named once:", named.add(promise) ? 1 : 0, 1);
        }
      }
    }
    CHECK.due("promises named", named.size(), 35);
  }

  // ---- the copy

  /** As here: a folder of the project and, beside it, one named shared. */
  private static Path copyOfProject(Path root) throws IOException {
    Path project = root.resolve("project");
    copy(Path.of(".ci/run"), project.resolve(".ci/run"));
    project.resolve(".ci/run").toFile().setExecutable(true);
    copy(Path.of("src/main/java/PulledFromUnder.java"),
        project.resolve("src/main/java/PulledFromUnder.java"));
    for (String file : FEW) {
      copy(TESTS.resolve(file), project.resolve(TESTS).resolve(file));
    }
    try (Stream<Path> told = Files.list(Path.of("../shared/tests"))) {
      for (Path file : told.collect(Collectors.toList())) {
        copy(file, root.resolve("shared/tests").resolve(file.getFileName()));
      }
    }
    return project;
  }

  private static void copy(Path from, Path to) throws IOException {
    Files.createDirectories(to.getParent());
    Files.write(to, Files.readAllBytes(from));
  }

  private static void remove(Path root) throws IOException {
    try (Stream<Path> all = Files.walk(root)) {
      all.sorted(Comparator.reverseOrder()).map(Path::toFile).forEach(File::delete);
    }
  }

  private static int run(Path folder, StringBuilder said, String... command)
      throws IOException, InterruptedException {
    Process process = new ProcessBuilder(command).directory(folder.toFile())
        .redirectErrorStream(true).start();
    said.append(new String(process.getInputStream().readAllBytes(), StandardCharsets.UTF_8));
    return process.waitFor();
  }

  // ---- commands

  private static void commandsWork(Path project, List<String> commands)
      throws IOException, InterruptedException {
    CHECK.due("commands", commands.size(), 3);
    if (commands.size() != 3) {
      return;
    }
    String[] said = new String[3];
    for (int i = 0; i < said.length; i++) {
      StringBuilder all = new StringBuilder();
      CHECK.due(commands.get(i), run(project, all, "sh", "-e", "-c", commands.get(i)), 0);
      said[i] = all.toString();
    }
    CHECK.due("the class alone: nothing is said", said[0].length(), 0);
    says(".ci/run", said[1], "all tests pass\n", true);
    try (Stream<Path> told = Files.list(project.resolve("../shared/tests"))) {
      told.forEach(file -> says(".ci/run", said[1], "== ../shared/tests/" + file.getFileName(), true));
    }
    says(".ci/run", said[1], "== src/test/java/LotTest.java", true);
    says("one test", said[2], "20 runs agree", true);
  }

  private static void says(String who, String said, String what, boolean is) {
    CHECK.due(who + " says \"" + what.strip() + "\":", said.contains(what) ? 1 : 0, is ? 1 : 0);
  }

  // ---- Java

  private static void javaAnswers(Path root, List<String> pieces)
      throws IOException, InterruptedException {
    CHECK.due("pieces of Java", pieces.size(), 2);
    for (int i = 0; i < pieces.size(); i++) {
      Path folder = Files.createDirectories(root.resolve("use" + i));
      Files.writeString(folder.resolve("Use.java"), asClass(pieces.get(i)));
      StringBuilder said = new StringBuilder();
      // "../project/build" holds the class as the README's own command compiled it
      int compiled = run(folder, said, "javac", "-cp", "../project/build", "-d", ".", "Use.java");
      CHECK.due("it compiles: " + said, compiled, 0);
      String classes = "../project/build" + File.pathSeparator + ".";
      int ended = run(folder, said, "java", "-cp", classes, "Use");
      CHECK.due("it answers as it says: " + said, ended, 0);
    }
  }

  private static final Pattern ANSWER = Pattern.compile("(.*);\\s+// (-?[0-9]+):.*");

  /** Where a number stands behind a call, the call is to answer it. */
  private static String asClass(String piece) {
    StringBuilder text = new StringBuilder("public final class Use {\n"
        + "  private static int wrong = 0;\n"
        + "  private static void due(String call, long got, long want) {\n"
        + "    if (got != want) { wrong++; System.out.println(call + \" answered \" + got); }\n"
        + "  }\n"
        + "  public static void main(String[] a) {\n");
    int answers = 0;
    for (String line : piece.split("\n")) {
      Matcher answer = ANSWER.matcher(line);
      if (answer.matches()) {
        answers++;
        text.append("due(\"").append(answer.group(1)).append("\", ").append(answer.group(1));
        text.append(", ").append(answer.group(2)).append("L);\n");
      } else {
        text.append(line).append('\n');
      }
    }
    CHECK.due("eight answers are told", answers, 8);
    return text.append("    System.exit(wrong == 0 ? 0 : 1);\n  }\n}\n").toString();
  }

  // ---- .ci/run fails if a test does

  private static void ciFailsAsItSays(Path project) throws IOException, InterruptedException {
    for (String file : FEW) {
      Files.delete(project.resolve(TESTS).resolve(file));
    }
    Path told = project.resolve("../shared/tests").normalize();
    remove(told);
    Files.createDirectories(told);
    Path own = project.resolve(TESTS);
    write(own, "OneTest", PASSING);
    write(told, "Told", PASSING);
    ciEnds(project, 0, "all tests pass");
    brokenOne(project, own, "OneTest", FAILING, "fails: src/test/java/");
    brokenOne(project, told, "Told", THROWING, "fails: ../shared/tests/");
    brokenOne(project, own, "OneTest", NO_JAVA, "does not compile: src/test/java/");
    brokenOne(project, told, "Told", NO_JAVA, "does not compile: ../shared/tests/");
  }

  private static void brokenOne(Path project, Path folder, String name, String text, String says)
      throws IOException, InterruptedException {
    write(folder, name, text);
    ciEnds(project, 1, says + name + ".java");
    write(folder, name, PASSING);
  }

  private static void write(Path folder, String name, String text) throws IOException {
    Files.writeString(folder.resolve(name + ".java"), String.format(text, name));
  }

  /** It is started from another folder than its own. */
  private static void ciEnds(Path project, int code, String says)
      throws IOException, InterruptedException {
    StringBuilder said = new StringBuilder();
    int ended = run(project.resolve("src"), said, "../.ci/run");
    CHECK.due(".ci/run ends, " + says + ":", ended, code);
    says(".ci/run", said.toString(), says, true);
    says(".ci/run", said.toString(), "all tests pass", code == 0);
  }
}
