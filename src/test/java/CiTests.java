import java.nio.file.Files;
import java.nio.file.Path;
import java.util.LinkedHashMap;
import java.util.Map;

/** .ci/run itself, on a small project of its own: it runs every test, and fails if one of them fails. */
public final class CiTests {
  private static final String PASSES = "public final class # { public static void main(String[] a) { System.out.println(\"# ran\"); } }";
  private static final String FAILS = "public final class # { public static void main(String[] a) { System.out.println(\"# ran\"); System.exit(1); } }";
  private static final String THROWS = "public final class # { public static void main(String[] a) { throw new IllegalStateException(\"# ran\"); } }";
  private static final String NO_JAVA = "public final class # { it is no Java }";

  private final Path folder;
  private final Map<Path, String> tests = new LinkedHashMap<>();

  private CiTests(Path folder) {
    this.folder = folder;
  }

  private static CiTests project() throws Exception {
    CiTests made = new CiTests(Files.createTempDirectory("ci"));
    made.write(Path.of("project/src/main/java/HiddenSteps.java"), "public final class HiddenSteps {}");
    made.write(Path.of("project/src/test/support/Shared.java"), "final class Shared {}");
    made.write(Path.of("project/.ci/run"), Files.readString(Path.of(".ci/run")));
    return made;
  }

  private void write(Path file, String text) throws Exception {
    Files.createDirectories(folder.resolve(file).getParent());
    Files.writeString(folder.resolve(file), text);
  }

  private CiTests own(String name, String text) throws Exception {
    return test(Path.of("project/src/test/java", name + ".java"), name, text);
  }

  private CiTests shared(String name, String text) throws Exception {
    return test(Path.of("shared/tests", name + ".java"), name, text);
  }

  private CiTests test(Path file, String name, String text) throws Exception {
    write(file, text.replace("#", name));
    if (!text.equals(NO_JAVA)) tests.put(file, name + " ran");
    return this;
  }

  /** Runs it from another folder, with what is written there: whether it passes; each test that can be run has been. */
  private void due(String sentence, boolean passes) throws Exception {
    Check.sentence(sentence);
    Scratch.Ran ran = Scratch.run(folder, "sh", "project/.ci/run");
    Check.due("it passes", ran.code == 0, passes);
    for (Map.Entry<Path, String> test : tests.entrySet()) Check.due(test.getKey() + " is run", ran.said.contains(test.getValue()), true);
    Scratch.removeAll(folder);
  }

  public static void main(String[] args) throws Exception {
    project().own("Own", PASSES).own("Another", PASSES).shared("Theirs", PASSES).due("every test passes", true);
    project().own("Own", PASSES.replace("{ System", "{ new Shared(); System")).shared("Theirs", PASSES).due("tests share what is under support", true);
    project().own("Own", FAILS).own("Second", PASSES).shared("Theirs", PASSES).due("a test of the project fails", false);
    project().own("Own", PASSES).shared("Theirs", FAILS).shared("Wider", PASSES).due("a shared test fails", false);
    project().own("Own", THROWS).shared("Theirs", PASSES).due("a test throws", false);
    project().own("Own", NO_JAVA).shared("Theirs", PASSES).due("a test cannot be compiled", false);
    project().own("Own", PASSES).due("there are no shared tests", false);
    Check.end(".ci/run runs every test and fails if one fails");
  }
}
