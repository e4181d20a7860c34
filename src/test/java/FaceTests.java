import java.lang.reflect.Constructor;
import java.lang.reflect.Field;
import java.lang.reflect.Member;
import java.lang.reflect.Method;
import java.lang.reflect.Modifier;
import java.nio.file.Files;
import java.nio.file.Path;
import java.util.Arrays;
import java.util.Set;
import java.util.TreeSet;
import java.util.regex.Matcher;
import java.util.regex.Pattern;

/** The public face, the rules of the language that can be read off the source, and the room that a run takes. */
public final class FaceTests {
  private static int wrong = 0;

  private static void due(String what, Object got, Object want) {
    if (!got.equals(want)) {
      wrong++;
      System.out.println(what + ": " + got + ", due is " + want);
    }
  }

  // ---- the face ----

  private static final String[] METHODS = {
      "int chain(int,int,int)", "int begin(int,int,int)", "int go(int,int,int,int)", "int show(int,int,int,int)", "int sound(int)",
      "int told(int,int)", "int sign(int)", "int cut(int)", "int at(int)", "int sum(int)", "int odds(int,int,int,int)",
      "int moment(int,int)", "int best(int,int)", "int state(int)", "int compare(int,int)", "int same(int,int)", "int apart(int,int)",
      "int twins(int,int,int)", "long part(int)", "int count(int)", "int remove()"};

  private static String signature(Method m) {
    StringBuilder types = new StringBuilder();
    for (Class<?> p : m.getParameterTypes()) types.append(types.length() == 0 ? "" : ",").append(p.getSimpleName());
    return m.getReturnType().getSimpleName() + " " + m.getName() + "(" + types + ")";
  }

  private static boolean isHidden(Member m) {
    return Modifier.isPrivate(m.getModifiers());
  }

  private static void faceIsTheDocuments() throws Exception {
    Class<?> type = HiddenSteps.class;
    due("modifiers", Modifier.toString(type.getModifiers()), "public final");
    Set<String> open = new TreeSet<>();
    Set<String> names = new TreeSet<>();
    for (Method m : type.getDeclaredMethods()) {
      if (isHidden(m)) continue;
      open.add(signature(m));
      names.add(m.getName());
      due("modifiers of " + m.getName(), Modifier.toString(m.getModifiers()), "public");
    }
    due("methods", open, new TreeSet<>(Arrays.asList(METHODS)));
    Constructor<?>[] constructors = type.getDeclaredConstructors();
    due("constructors", constructors.length, 1);
    due("constructor", Modifier.toString(constructors[0].getModifiers()) + constructors[0].getParameterCount(), "public0");
    String[] constants = {"NONE", "EMPTY", "ROUGH", "UNFIT", "NOUGHT", "FULL"};
    for (int i = 0; i < constants.length; i++) due(constants[i], type.getField(constants[i]).getInt(null), -1 - i);
    Set<String> fields = new TreeSet<>();
    for (Field f : type.getDeclaredFields()) if (!isHidden(f)) fields.add(f.getName());
    due("fields", fields, new TreeSet<>(Arrays.asList(constants)));
    for (Class<?> inside : type.getDeclaredClasses()) {
      due(inside.getName() + " is static", Modifier.isStatic(inside.getModifiers()), true);
      due(inside.getName() + " is public", Modifier.isPublic(inside.getModifiers()), false);
      for (Method m : inside.getDeclaredMethods()) due("name of " + m, names.contains(m.getName()), false);
    }
    for (Method m : type.getDeclaredMethods()) if (isHidden(m)) due("name of " + m, names.contains(m.getName()), false);
  }

  // ---- the source ----

  private static String withoutComments(String source) {
    return source.replaceAll("(?s)/\\*.*?\\*/", "").replaceAll("//[^\n]*", "");
  }

  private static void sourceKeepsToTheRules() throws Exception {
    String code = withoutComments(Files.readString(Path.of("src/main/java/HiddenSteps.java")));
    String[] words = {"throw", "throws", "try", "catch", "synchronized", "assert", "package", "import", "protected", "double", "float",
        "System.out", "System.nanoTime", "System.currentTimeMillis", "Random", "Thread", "BigInteger", "Object", "Exact"};
    for (String word : words) {
      due("the word " + word, Pattern.compile("\\b" + Pattern.quote(word) + "\\b").matcher(code).find(), false);
    }
    due("lambdas", code.contains("->") || code.contains("::"), false);
    Matcher library = Pattern.compile("\\b(Math|System|Arrays|Integer|Long)\\.(\\w+)").matcher(code);
    Set<String> allowed = Set.of("Math.min", "Math.max", "System.arraycopy");
    while (library.find()) due(library.group() + " is allowed", allowed.contains(library.group()), true);
  }

  // ---- the room ----

  /** Fields and elements, each of which takes Java four bytes or more. */
  private static final int ROOM = 7_300_000;

  private static long allocated() {
    return ((com.sun.management.ThreadMXBean) java.lang.management.ManagementFactory.getThreadMXBean())
        .getThreadAllocatedBytes(Thread.currentThread().getId());
  }

  private static void fillEvenly(HiddenSteps x, int c) {
    for (int s = 0; s < 8; s++) {
      x.begin(c, s, 125);
      for (int t = 0; t < 8; t++) x.go(c, s, t, 125);
      for (int k = 0; k < 5; k++) x.show(c, s, k, 200);
    }
  }

  /** The dearest calls, again and again: the rows are made once. */
  private static void runsStayInTheirRoom() {
    allocated();
    long before = allocated();
    HiddenSteps x = new HiddenSteps();
    x.chain(8, 5, 1000);
    x.chain(8, 5, 1000);
    fillEvenly(x, 0);
    fillEvenly(x, 1);
    for (int i = 0; i < 50; i++) {
      x.same(0, 1);
      x.twins(0, 3, 4);
      x.cut(0);
      for (int p = 0; p < 60; p++) x.sign(p % 6 - 1);
      x.best(0, 19);
      x.sum(0);
      x.compare(0, 1);
      x.moment(0, 30);
      x.odds(0, 30, 7, 2);
    }
    due("one object's calls take little", allocated() - before < 500_000, true);
    before = allocated();
    for (int i = 0; i < 512; i++) new HiddenSteps();
    due("many objects fit as well", allocated() - before < ROOM * 4L, true);
  }

  public static void main(String[] args) throws Exception {
    faceIsTheDocuments();
    sourceKeepsToTheRules();
    runsStayInTheirRoom();
    System.out.println(wrong == 0 ? "the face, the source and the room are as due" : wrong + " things are not as due");
    if (wrong != 0) System.exit(1);
  }
}
