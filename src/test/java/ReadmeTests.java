import java.io.StringWriter;
import java.lang.reflect.Method;
import java.lang.reflect.Modifier;
import java.net.URI;
import java.net.URL;
import java.net.URLClassLoader;
import java.nio.file.Files;
import java.nio.file.Path;
import java.util.ArrayList;
import java.util.List;
import java.util.Set;
import java.util.TreeSet;
import java.util.regex.Matcher;
import java.util.regex.Pattern;
import java.util.stream.Stream;
import javax.tools.JavaCompiler;
import javax.tools.JavaFileObject;
import javax.tools.SimpleJavaFileObject;
import javax.tools.ToolProvider;

/** What README.md shows of the class's use answers as it says there, and what it says of the tests is how they are run. */
public final class ReadmeTests {
  private static final Path README = Path.of("README.md");

  // ---- pieces of the text ----

  /** The lines of all pieces of code of a kind, in their order. */
  private static List<String> code(List<String> lines, String kind) {
    List<String> found = new ArrayList<>();
    boolean inside = false;
    for (String line : lines) {
      if (inside && line.equals("```")) inside = false;
      else if (inside) found.add(line);
      else if (line.equals("```" + kind)) inside = true;
    }
    return found;
  }

  private static Set<String> names(Path folder) throws Exception {
    Set<String> names = new TreeSet<>();
    try (Stream<Path> files = Files.list(folder)) {
      files.forEach(file -> names.add(file.getFileName().toString().replace(".java", "")));
    }
    return names;
  }

  // ---- the use ----

  /** A line that says what it answers: what is asked, and the answer. A variable may be made of it. */
  private static final Pattern ASKED = Pattern.compile("(?:int (\\w+) = )?([^;]*); *// -> ([^\\s:]+)(?::.*)?");

  /** The line as a statement that also looks at the answer. */
  private static String statement(String line) {
    if (!line.contains("->")) return line;
    Matcher asked = ASKED.matcher(line);
    if (!asked.matches()) return "due(" + quoted(line) + ", null, \"a line that can be read\");";
    String call = asked.group(2);
    String answer = asked.group(3);
    if (asked.group(1) == null) return "due(" + quoted(line) + ", " + call + ", " + answer + ");";
    return "int " + asked.group(1) + " = " + call + "; due(" + quoted(line) + ", " + asked.group(1) + ", " + answer + ");";
  }

  private static String quoted(String text) {
    return "\"" + text.replace("\\", "\\\\").replace("\"", "\\\"") + "\"";
  }

  private static String program(List<String> use) {
    StringBuilder made = new StringBuilder("public final class ReadmeUse {\n");
    made.append("  private static void due(String line, Object got, Object want) {\n");
    made.append("    if (!String.valueOf(got).equals(String.valueOf(want))) wrong.add(line + \" answered \" + got);\n  }\n");
    made.append("  private static final java.util.List<String> wrong = new java.util.ArrayList<>();\n");
    made.append("  public static java.util.List<String> use() {\n");
    for (String line : use) made.append("    ").append(statement(line)).append('\n');
    return made.append("    return wrong;\n  }\n}\n").toString();
  }

  private static JavaFileObject source(String text) {
    return new SimpleJavaFileObject(URI.create("string:///ReadmeUse.java"), JavaFileObject.Kind.SOURCE) {
      @Override
      public CharSequence getCharContent(boolean ignoreEncodingErrors) {
        return text;
      }
    };
  }

  private static void useAnswersAsItSays(List<String> use, Path build) throws Exception {
    Check.sentence("README: the use");
    JavaCompiler compiler = ToolProvider.getSystemJavaCompiler();
    StringWriter said = new StringWriter();
    List<String> options = List.of("--release", "17", "-cp", System.getProperty("java.class.path"), "-d", build.toString());
    boolean compiled = compiler.getTask(said, null, null, options, null, List.of(source(program(use)))).call();
    Check.due("its code is compiled" + said, compiled, true);
    if (!compiled) return;
    try (URLClassLoader loader = new URLClassLoader(new URL[] {build.toUri().toURL()})) {
      Check.due("its code", loader.loadClass("ReadmeUse").getMethod("use").invoke(null), List.of());
    }
  }

  private static void useShowsEachCall(List<String> use) {
    String all = String.join("\n", use);
    for (Method m : HiddenSteps.class.getDeclaredMethods()) {
      if (!Modifier.isPublic(m.getModifiers())) continue;
      Check.sentence("README: each call is shown with its answer");
      boolean shown = Pattern.compile("x\\." + m.getName() + "\\([^;]*; *// -> ").matcher(all).find();
      Check.due(m.getName(), shown, true);
    }
  }

  /** A line of the table of refusals: the constant's name and its number. */
  private static final Pattern REFUSAL = Pattern.compile("\\| `([A-Z]+)` \\| (-\\d) \\|.*");

  private static void refusalsAreTheConstants(List<String> lines, List<String> use) throws Exception {
    Check.sentence("README: the refusals");
    int told = 0;
    for (String line : lines) {
      Matcher refusal = REFUSAL.matcher(line);
      if (!refusal.matches()) continue;
      told++;
      Check.due(line, HiddenSteps.class.getField(refusal.group(1)).getInt(null), Integer.parseInt(refusal.group(2)));
      Check.due(refusal.group(1) + " is shown", String.join("\n", use).contains("-> HiddenSteps." + refusal.group(1)), true);
    }
    Check.due("how many are told", told, 6);
  }

  // ---- the tests ----

  private static void testsAreRunAsItSays(List<String> lines, Path build) throws Exception {
    Check.sentence("README: how the tests are run");
    List<String> commands = code(lines, "sh");
    Check.due("the first command", commands.get(0), ".ci/run");
    Check.due(".ci/run can be run", Files.isExecutable(Path.of(".ci/run")), true);
    for (String command : commands.subList(1, commands.size())) {
      String asked = command.replace(" build ", " " + build + " ");
      Scratch.Ran ran = Scratch.run(Path.of("."), "sh", "-c", asked);
      Check.due(command + " (" + ran.said.trim() + ")", ran.code, 0);
    }
  }

  private static void eachTestIsTold(List<String> lines) throws Exception {
    Check.sentence("README: what each test is");
    Set<String> told = new TreeSet<>();
    Matcher names = Pattern.compile("(?m)^- `(\\w+)`:").matcher(String.join("\n", lines));
    while (names.find()) told.add(names.group(1));
    Check.due("tests", told, names(Path.of("src/test/java")));
    for (String name : names(Path.of("src/test/support"))) {
      Check.due(name + " is told", String.join("\n", lines).contains("`" + name + "`"), true);
    }
  }

  public static void main(String[] args) throws Exception {
    List<String> lines = Files.readAllLines(README);
    List<String> use = code(lines, "java");
    Path build = Files.createTempDirectory("readme");
    try {
      useAnswersAsItSays(use, build);
      useShowsEachCall(use);
      refusalsAreTheConstants(lines, use);
      testsAreRunAsItSays(lines, build);
      eachTestIsTold(lines);
    } finally {
      Scratch.removeAll(build);
    }
    Check.end("README.md says what is so");
  }
}
