import java.io.IOException;
import java.lang.reflect.Method;
import java.lang.reflect.Modifier;
import java.net.URL;
import java.net.URLClassLoader;
import java.nio.file.Files;
import java.nio.file.Path;
import java.util.List;
import java.util.Set;
import java.util.TreeSet;
import java.util.regex.Matcher;
import java.util.regex.Pattern;
import java.util.stream.Collectors;
import java.util.stream.Stream;
import javax.tools.JavaCompiler;
import javax.tools.ToolProvider;

// What README.md shows as answers are the answers that the class gives: its Java is compiled as it stands there and run.
//
// A line that asks for an answer is "call; // answer: why", the answer a number or one of the class's constants.
public final class ReadmeTest {
  private static final Pattern SHOWN = Pattern.compile("(board\\.(\\w+)\\([-0-9, ]*\\));\\s*// (-?[0-9]+|[A-Z]+): \\S.*");
  private static final Pattern TYPED = Pattern.compile("for \\(char c : \".*\"\\.toCharArray\\(\\)\\) board\\.(type)\\(c\\);");
  private static final String MADE = "BoardStones board = new BoardStones();";
  private static final String PROGRAM = "ReadmeProgram";

  private static int wrong = 0;
  private static int answers = 0;

  private static void report(String what) {
    wrong++;
    System.out.println("README.md: " + what);
  }

  /** The Java of the page as one program, in which each answer shown is looked at; names gets the calls shown. */
  private static String program(List<String> page, Set<String> names) {
    StringBuilder body = new StringBuilder();
    boolean inside = false;
    for (int i = 0; i < page.size(); i++) {
      String line = page.get(i);
      if (line.startsWith("```")) {
        inside = line.equals("```java");
      } else if (inside) {
        body.append(statement(line, i + 1, names)).append('\n');
      }
    }
    return "public final class " + PROGRAM + " {\n"
        + "  private static int wrong = 0;\n"
        + "  private static void due(int line, String call, long got, long want) {\n"
        + "    if (got != want) { wrong++; System.out.println(\"README.md:\" + line + \": \" + call + \" answered \" + got + \", shown is \" + want); }\n"
        + "  }\n"
        + "  public static int run() {\n" + body + "return wrong;\n  }\n}\n";
  }

  private static String statement(String line, int number, Set<String> names) {
    Matcher shown = SHOWN.matcher(line);
    if (shown.matches()) {
      answers++;
      names.add(shown.group(2));
      String answer = shown.group(3);
      String want = Character.isLetter(answer.charAt(0)) ? "BoardStones." + answer : answer;
      return "due(" + number + ", \"" + shown.group(1) + "\", " + shown.group(1) + ", " + want + ");";
    }
    Matcher typed = TYPED.matcher(line);
    if (typed.matches()) names.add(typed.group(1));
    else if (!line.equals(MADE)) report("line " + number + " shows no answer that can be looked at: " + line);
    return line;
  }

  private static int run(String program) throws Exception {
    JavaCompiler compiler = ToolProvider.getSystemJavaCompiler();
    if (compiler == null) throw new IllegalStateException("no compiler is there");
    Path dir = Files.createTempDirectory("readme");
    try {
      Path file = Files.writeString(dir.resolve(PROGRAM + ".java"), program);
      int failed = compiler.run(null, null, null, "-encoding", "UTF-8", "-cp", System.getProperty("java.class.path"), "-d", dir.toString(), file.toString());
      if (failed != 0) return 1;
      try (URLClassLoader loader = new URLClassLoader(new URL[] {dir.toUri().toURL()}, ReadmeTest.class.getClassLoader())) {
        return (Integer) loader.loadClass(PROGRAM).getMethod("run").invoke(null);
      }
    } finally {
      drop(dir);
    }
  }

  private static void drop(Path dir) throws IOException {
    try (Stream<Path> files = Files.list(dir)) {
      for (Path file : files.collect(Collectors.toList())) Files.delete(file);
    }
    Files.delete(dir);
  }

  private static void everyCallIsShown(Set<String> names) {
    for (Method m : BoardStones.class.getDeclaredMethods()) {
      if (Modifier.isPublic(m.getModifiers()) && !names.contains(m.getName())) report("the call " + m.getName() + " is not shown");
    }
  }

  private static void everyTestIsNamed(List<String> page, Path folder) throws IOException {
    Set<String> named = new TreeSet<>(), there = new TreeSet<>();
    for (String line : page) {
      Matcher m = Pattern.compile("- `src/test/java/(\\w+\\.java)`: .*").matcher(line);
      if (m.matches()) named.add(m.group(1));
    }
    try (Stream<Path> files = Files.list(folder)) {
      files.map(f -> f.getFileName().toString()).filter(f -> f.endsWith(".java")).forEach(there::add);
    }
    if (!named.equals(there)) report("names the tests " + named + ", there are " + there);
  }

  public static void main(String[] args) throws Exception {
    List<String> page = Files.readAllLines(Path.of(args.length > 0 ? args[0] : "README.md"));
    Set<String> names = new TreeSet<>();
    String program = program(page, names);
    // Asked for first: in one line with wrong, the reports that come meanwhile would be lost.
    int differing = run(program);
    wrong += differing;
    everyCallIsShown(names);
    everyTestIsNamed(page, Path.of("src/test/java"));
    System.out.println(wrong == 0 ? answers + " answers of README.md are the class's" : wrong + " things of README.md do not hold");
    if (wrong != 0) System.exit(1);
  }
}
