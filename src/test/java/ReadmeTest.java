import java.io.IOException;
import java.lang.reflect.Method;
import java.lang.reflect.Modifier;
import java.net.URL;
import java.net.URLClassLoader;
import java.nio.file.Files;
import java.nio.file.Path;
import java.util.ArrayList;
import java.util.List;
import java.util.Set;
import java.util.TreeSet;
import java.util.concurrent.Callable;
import java.util.function.Consumer;
import java.util.regex.Matcher;
import java.util.regex.Pattern;
import java.util.stream.Collectors;
import java.util.stream.Stream;
import javax.tools.ToolProvider;

/**
 * README.md: what its examples show as answers is what the class answers; each call of the face
 * stands in a table, with its exceptions, and in an example; each test stands in the list of tests.
 */
public final class ReadmeTest {
  private static final Path README = Path.of("README.md");
  private static final Path TESTS = Path.of("src/test/java");
  private static final String PROGRAM = "ReadmeExamples";
  private static final String BLOCK_BEGINS = "```java";
  private static final String BLOCK_ENDS = "```";

  /** A line of an example with an answer: perhaps a name for it, the call, and what is shown. */
  private static final Pattern SHOWN = Pattern.compile("(?:\\w+ (\\w+) = )?(.+); +// (.+)");

  /** What is shown: the answer, then perhaps how recipes are written, then perhaps a remark. */
  private static final Pattern ANSWER =
      Pattern.compile("(throws \\w+|\\S+?)(?:; (recipe [^(]+))?(?: \\(.+\\))?");

  private static final Pattern WRITTEN = Pattern.compile("recipe (\\d+) is (\\S+)");
  private static final Pattern NAME = Pattern.compile("kitchen\\.(\\w+)\\(");
  private static final Pattern EXCEPTION = Pattern.compile("`(\\w+Exception)`");

  private static final Checks CHECKS = new Checks();

  private static long compared = 0;

  private ReadmeTest() {}

  /** What the program that is made of the examples tells of each of their lines. */
  public interface Answers {
    void shown(int line, String shown, PolyKitchen kitchen, Callable<Object> call);
  }

  public static void main(String[] args) throws Exception {
    List<String> lines = Files.readAllLines(README);
    examples(lines);
    callsInExamples(lines);
    callsInTables(lines);
    listOfTests(lines);
    CHECKS.end("ReadmeTest");
  }

  // ---- the examples

  private static void examples(List<String> lines) throws Exception {
    Path folder = Files.createTempDirectory("readme");
    try {
      Path source = folder.resolve(PROGRAM + ".java");
      Files.write(source, program(lines));
      int status = ToolProvider.getSystemJavaCompiler().run(null, null, null, "-d",
          folder.toString(), "-cp", System.getProperty("java.class.path"), source.toString());
      CHECKS.due("the compiler's status on README.md's examples", status, 0);
      if (status == 0) {
        run(folder);
        long shown = lines.stream().filter(line -> SHOWN.matcher(line).matches()).count();
        CHECKS.due("the answers that were compared", compared, shown);
      }
    } finally {
      remove(folder);
    }
  }

  /** The examples as one program, each in a block of its own. */
  private static List<String> program(List<String> lines) {
    List<String> program = new ArrayList<>();
    program.add("public final class " + PROGRAM);
    program.add("    implements java.util.function.Consumer<ReadmeTest.Answers> {");
    program.add("  public void accept(ReadmeTest.Answers answers) {");
    boolean inside = false;
    for (int number = 1; number <= lines.size(); number++) {
      String line = lines.get(number - 1);
      if (line.equals(BLOCK_BEGINS)) {
        inside = true;
        program.add("{");
      } else if (inside && line.equals(BLOCK_ENDS)) {
        inside = false;
        program.add("}");
      } else if (inside) {
        program.add(told(number, line));
      }
    }
    program.add("  }");
    program.add("}");
    return program;
  }

  /** A line of an example, so that it tells its answer if it shows one. */
  private static String told(int number, String line) {
    if (!line.contains("//")) {
      return line;
    }
    Matcher parts = SHOWN.matcher(line);
    if (!parts.matches()) {
      CHECKS.due(place(number), line, "a call and its answer");
      return "";
    }
    String named = parts.group(1);
    return (named == null ? "" : line + "\n") + "answers.shown(" + number + ", \""
        + parts.group(3) + "\", kitchen, () -> " + (named == null ? parts.group(2) : named) + ");";
  }

  private static void run(Path folder) throws Exception {
    try (URLClassLoader loader = new URLClassLoader(new URL[] {folder.toUri().toURL()})) {
      Object program = loader.loadClass(PROGRAM).getConstructor().newInstance();
      @SuppressWarnings("unchecked")
      Consumer<Answers> examples = (Consumer<Answers>) program;
      examples.accept(ReadmeTest::compare);
    }
  }

  private static void compare(int line, String shown, PolyKitchen kitchen, Callable<Object> call) {
    compared++;
    Matcher parts = ANSWER.matcher(shown);
    if (!parts.matches()) {
      CHECKS.due(place(line), shown, "an answer");
      return;
    }
    CHECKS.due(place(line), outcome(call), parts.group(1));
    if (parts.group(2) != null) {
      for (String one : parts.group(2).split(", ")) {
        written(line, one, kitchen);
      }
    }
  }

  private static void written(int line, String shown, PolyKitchen kitchen) {
    Matcher parts = WRITTEN.matcher(shown);
    if (!parts.matches()) {
      CHECKS.due(place(line), shown, "how a recipe is written");
      return;
    }
    int recipe = Integer.parseInt(parts.group(1));
    CHECKS.due(place(line) + ", recipe " + recipe,
        outcome(() -> Cases.textOf(kitchen, recipe)), parts.group(2));
  }

  private static String outcome(Callable<Object> call) {
    try {
      return String.valueOf(call.call());
    } catch (Exception thrown) {
      return "throws " + thrown.getClass().getSimpleName();
    }
  }

  private static String place(int line) {
    return "README.md, line " + line;
  }

  private static void remove(Path folder) throws IOException {
    try (Stream<Path> files = Files.list(folder)) {
      for (Path file : files.collect(Collectors.toList())) {
        Files.delete(file);
      }
    }
    Files.delete(folder);
  }

  // ---- what README.md names

  private static void callsInExamples(List<String> lines) {
    Set<String> found = new TreeSet<>();
    for (String line : lines) {
      Matcher parts = SHOWN.matcher(line);
      Matcher name = NAME.matcher(line);
      if (parts.matches() && name.find()) {
        found.add(name.group(1));
      }
    }
    Set<String> face = new TreeSet<>();
    for (Method method : publicMethods()) {
      face.add(method.getName());
    }
    CHECKS.due("the calls in README.md's examples", found, face);
  }

  private static void callsInTables(List<String> lines) {
    List<String> found = new ArrayList<>();
    for (String line : lines) {
      String[] cells = line.split("\\|");
      if (cells.length == 4 && cells[1].startsWith(" `")) {
        String call = cells[1].replace("`", "").trim();
        found.add(call.replaceAll("(\\w+) \\w+([,)])", "$1$2") + " " + exceptions(cells[3]));
      }
    }
    List<String> face = new ArrayList<>();
    face.add("PolyKitchen() ");
    for (Method method : publicMethods()) {
      face.add(Calls.described(method));
    }
    found.sort(null);
    face.sort(null);
    CHECKS.due("the calls in README.md's tables", found, face);
  }

  private static String exceptions(String cell) {
    List<String> names = new ArrayList<>();
    Matcher name = EXCEPTION.matcher(cell);
    while (name.find()) {
      names.add(name.group(1));
    }
    return String.join(", ", names);
  }

  private static List<Method> publicMethods() {
    List<Method> methods = new ArrayList<>();
    for (Method method : PolyKitchen.class.getDeclaredMethods()) {
      if (Modifier.isPublic(method.getModifiers())) {
        methods.add(method);
      }
    }
    return methods;
  }

  private static void listOfTests(List<String> lines) throws IOException {
    Set<String> found = new TreeSet<>();
    for (String line : lines) {
      String[] cells = line.split("\\|");
      if (cells.length == 3 && cells[1].startsWith(" `")) {
        found.add(cells[1].replace("`", "").trim() + ".java");
      }
    }
    Set<String> tests = new TreeSet<>();
    try (Stream<Path> files = Files.list(TESTS)) {
      files.map(file -> file.getFileName().toString())
          .filter(name -> name.endsWith("Test.java"))
          .forEach(tests::add);
    }
    CHECKS.due("the tests in README.md's list", found, tests);
  }
}
