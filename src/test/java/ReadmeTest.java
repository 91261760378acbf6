import java.io.IOException;
import java.nio.file.Files;
import java.nio.file.Path;
import java.util.ArrayList;
import java.util.Comparator;
import java.util.List;
import java.util.TreeSet;
import java.util.regex.Matcher;
import java.util.regex.Pattern;
import java.util.stream.Stream;

/**
 * What README.md shows is so: its lines compile and each call answers what stands behind it, each call and constant
 * of the face is shown, the lines that run a test run it, and each test of the project is told of.
 */
public final class ReadmeTest {
  private static final Path README = Path.of("README.md");
  private static final Path TESTS = Path.of("src/test/java");
  private static final String CLASS = "src/main/java/MarginTables.java";
  private static final String LINES = "ReadmeLines";
  private static final String STRATUM = "s;c2,1,0;c2,0,1;c3,2,3;";
  // The directory that README.md names for what it compiles; here it is one that is gone at the end.
  private static final String BUILD = "build";

  private static final Pattern CALL = Pattern.compile("(x\\.\\w+\\(.*\\)); *// (-?\\d+|BAD|NO|FULL|NONE)(:.*)?");

  private static int wrong = 0;

  private static void fault(String text) {
    wrong++;
    System.out.println(text);
  }

  /** The lines in README.md's blocks of a kind, each ended by its place, as in "x.lay();   // 2: strata @12". */
  private static List<String> linesOf(List<String> page, String kind) {
    List<String> lines = new ArrayList<>();
    String open = "";
    for (int i = 0; i < page.size(); i++) {
      String line = page.get(i);
      if (line.startsWith("```")) {
        open = open.isEmpty() ? line : "";
      } else if (open.equals("```" + kind) && !line.isBlank()) {
        lines.add(line + " @" + (i + 1));
      }
    }
    return lines;
  }

  private static String withoutPlace(String line) {
    return line.substring(0, line.lastIndexOf(" @"));
  }

  private static String placeOf(String line) {
    return line.substring(line.lastIndexOf(" @") + 2);
  }

  /** A call with the answer told behind it becomes a comparison; every other line stays as it is shown. */
  private static String compared(String line) {
    String shown = withoutPlace(line);
    Matcher call = CALL.matcher(shown);
    if (call.matches()) {
      String answer = call.group(2).matches("[A-Z]+") ? "MarginTables." + call.group(2) : call.group(2);
      return "due(" + placeOf(line) + ", \"" + call.group(1).replace("\"", "\\\"") + "\", " + call.group(1) + ", "
          + answer + ");";
    }
    if (shown.startsWith("x.")) {
      fault("README.md, line " + placeOf(line) + " tells no answer: " + shown);
    }
    return shown;
  }

  private static String program(List<String> lines) {
    StringBuilder program = new StringBuilder("public final class " + LINES + " {\n"
        + "  private static int asked = 0;\n"
        + "  private static int wrong = 0;\n"
        + "  private static void due(int line, String call, long got, long want) {\n"
        + "    asked++;\n"
        + "    if (got != want) {\n"
        + "      wrong++;\n"
        + "      System.out.println(\"README.md, line \" + line + \": \" + call + \" answered \" + got"
        + " + \", README.md tells \" + want);\n"
        + "    }\n"
        + "  }\n"
        + "  public static void main(String[] args) {\n");
    long calls = 0;
    for (String line : lines) {
      calls += CALL.matcher(withoutPlace(line)).matches() ? 1 : 0;
      program.append("    ").append(compared(line)).append('\n');
    }
    return program.append("    System.exit(wrong == 0 && asked == ").append(calls)
        .append(" ? 0 : 1);\n  }\n}\n").toString();
  }

  private static boolean runs(String... command) throws IOException, InterruptedException {
    return new ProcessBuilder(command).inheritIO().start().waitFor() == 0;
  }

  private static void checkLines(List<String> page, Path build) throws IOException, InterruptedException {
    List<String> lines = linesOf(page, "java");
    Path source = build.resolve(LINES + ".java");
    Files.writeString(source, program(lines));
    if (!runs("javac", "-d", build.toString(), CLASS, source.toString())) {
      fault("README.md's lines do not compile");
    } else if (!runs("java", "-cp", build.toString(), LINES)) {
      fault("README.md's lines do not answer as it tells");
    }
  }

  /** Whether README.md shows calls that answer so: a name of a method, or of a constant. */
  private static void checkShown(List<String> page) {
    StringBuilder shown = new StringBuilder();
    for (String line : linesOf(page, "java")) {
      shown.append(withoutPlace(line)).append('\n');
    }
    for (java.lang.reflect.Method method : MarginTables.class.getDeclaredMethods()) {
      boolean isPublic = java.lang.reflect.Modifier.isPublic(method.getModifiers());
      if (isPublic && shown.indexOf("x." + method.getName() + "(") < 0) {
        fault("README.md shows no call of " + method.getName());
      }
    }
    String whole = String.join("\n", page);
    String[] constants = {"`BAD` (" + MarginTables.BAD + ")", "`NO` (" + MarginTables.NO + ")",
      "`FULL` (" + MarginTables.FULL + ")", "`NONE` (" + MarginTables.NONE + ")"};
    for (String constant : constants) {
      if (!whole.contains(constant)) {
        fault("README.md does not tell of " + constant);
      }
    }
  }

  /** The lines that run tests: .ci/run runs this one, so it is only looked whether it can be run. */
  private static void checkCommands(List<String> page, Path build) throws IOException, InterruptedException {
    int run = 0;
    boolean isToldOfAll = false;
    for (String line : linesOf(page, "sh")) {
      String[] command = withoutPlace(line).split(" +");
      if (command[0].equals(".ci/run")) {
        isToldOfAll = Files.isExecutable(Path.of(command[0]));
        continue;
      }
      for (int i = 0; i < command.length; i++) {
        command[i] = command[i].equals(BUILD) ? build.toString() : command[i];
      }
      run++;
      if (!runs(command)) {
        fault("README.md, line " + placeOf(line) + " fails: " + withoutPlace(line));
      }
    }
    if (!isToldOfAll || run != 2) {
      fault("README.md does not tell how to run all tests and how to run one");
    }
  }

  private static void checkTests(List<String> page) throws IOException {
    TreeSet<String> there = new TreeSet<>();
    try (Stream<Path> files = Files.list(TESTS)) {
      files.forEach(file -> there.add(file.getFileName().toString().replace(".java", "")));
    }
    TreeSet<String> told = new TreeSet<>();
    for (String line : page) {
      Matcher test = Pattern.compile("- `(\\w+)`: .*").matcher(line);
      if (test.matches()) {
        told.add(test.group(1));
      }
    }
    if (!there.equals(told)) {
      fault("README.md tells of the tests " + told + ", there are " + there);
    }
  }

  /** The page writes down all tables of its stratum 0: each row against the stratum whose X are its numbers. */
  private static void checkRows(List<String> page) {
    Pattern pattern = Pattern.compile("\\| (\\d+) +\\| (\\d+), (\\d+), (\\d+) +\\| (\\d+) +"
        + "\\| (\\d+) +\\| (seen)? +\\|");
    int rows = 0;
    for (String line : page) {
      Matcher row = pattern.matcher(line);
      if (!row.matches()) {
        continue;
      }
      MarginTables x = laid(STRATUM);
      int seen = x.rank(0);
      boolean isSo = Integer.parseInt(row.group(1)) == rows && (row.group(7) != null) == (seen == rows);
      for (int j = 0; j < 3; j++) {
        isSo &= x.table(0, rows, j) == Integer.parseInt(row.group(2 + j));
      }
      for (int j = 0; j < 3; j++) {
        x.set(0, j, 0, Integer.parseInt(row.group(2 + j)));
      }
      isSo &= x.rank(0) == rows && x.ways(0, 0) == Long.parseLong(row.group(5));
      isSo &= x.stratum(0, 3) == Integer.parseInt(row.group(6));
      if (!isSo) {
        fault("README.md tells a table that is not so: " + line);
      }
      rows++;
    }
    if (rows != laid(STRATUM).stratum(0, 4) || !String.join("\n", page).contains("\"" + STRATUM)) {
      fault("README.md tells of " + rows + " tables of " + STRATUM);
    }
  }

  private static MarginTables laid(String text) {
    MarginTables x = new MarginTables();
    for (int i = 0; i < text.length(); i++) {
      x.write(text.charAt(i));
    }
    x.lay();
    return x;
  }

  private static void remove(Path directory) throws IOException {
    try (Stream<Path> files = Files.walk(directory)) {
      for (Path file : files.sorted(Comparator.reverseOrder()).toList()) {
        Files.delete(file);
      }
    }
  }

  public static void main(String[] args) throws IOException, InterruptedException {
    List<String> page = Files.readAllLines(README);
    Path build = Files.createTempDirectory("readme");
    try {
      checkLines(page, build);
      checkShown(page);
      checkRows(page);
      checkCommands(page, build);
      checkTests(page);
    } finally {
      remove(build);
    }
    System.out.println(wrong == 0 ? "README.md shows what is so" : wrong + " faults");
    if (wrong != 0) {
      System.exit(1);
    }
  }
}
