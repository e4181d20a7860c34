import java.lang.reflect.Constructor;
import java.lang.reflect.Field;
import java.lang.reflect.InvocationTargetException;
import java.lang.reflect.Member;
import java.lang.reflect.Method;
import java.lang.reflect.Modifier;
import java.util.Arrays;
import java.util.Comparator;
import java.util.List;
import java.util.Random;
import java.util.Set;
import java.util.TreeSet;

/** The public face, the room that a run takes, and that no call throws, whatever it is asked. */
public final class FaceTests {
  private static final Class<?> FACE = HiddenSteps.class;

  // ---- the face ----

  private static final String[] METHODS = {
      "int chain(int,int,int)", "int begin(int,int,int)", "int go(int,int,int,int)", "int show(int,int,int,int)", "int sound(int)",
      "int told(int,int)", "int sign(int)", "int cut(int)", "int at(int)", "int sum(int)", "int odds(int,int,int,int)",
      "int moment(int,int)", "int best(int,int)", "int state(int)", "int compare(int,int)", "int same(int,int)", "int apart(int,int)",
      "int twins(int,int,int)", "long part(int)", "int count(int)", "int remove()"};

  private static String signature(Method m) {
    StringBuilder types = new StringBuilder();
    for (Class<?> p : m.getParameterTypes()) types.append(types.length() == 0 ? "" : ",").append(p.getSimpleName());
    return m.getReturnType().getSimpleName() + " " + m.getName() + "(" + types + ")";
  }

  private static boolean isHidden(Member m) {
    return Modifier.isPrivate(m.getModifiers());
  }

  private static void classIsTheDocuments() {
    Check.sentence("public final class HiddenSteps");
    Check.due("modifiers", Modifier.toString(FACE.getModifiers()), "public final");
    Check.due("the class above it", FACE.getSuperclass(), Object.class);
    Check.due("interfaces", FACE.getInterfaces().length, 0);
    Check.due("package", FACE.getPackageName(), "");
    Check.sentence("public HiddenSteps()");
    Constructor<?>[] constructors = FACE.getDeclaredConstructors();
    Check.due("constructors", constructors.length, 1);
    Check.due("constructor", constructors[0].toGenericString(), "public HiddenSteps()");
  }

  private static void methodsAreTheDocuments() {
    Check.sentence("these methods, and no other public ones");
    Set<String> open = new TreeSet<>();
    for (Method m : FACE.getDeclaredMethods()) {
      if (isHidden(m)) continue;
      open.add(signature(m));
      Check.due("modifiers of " + m.getName(), Modifier.toString(m.getModifiers()), "public");
      Check.due("exceptions of " + m.getName(), m.getExceptionTypes().length, 0);
    }
    Check.due("methods", open, new TreeSet<>(Arrays.asList(METHODS)));
  }

  private static void constantsAreTheDocuments() throws ReflectiveOperationException {
    Check.sentence("NONE = -1, EMPTY = -2, ROUGH = -3, UNFIT = -4, NOUGHT = -5, FULL = -6");
    List<String> constants = List.of("NONE", "EMPTY", "ROUGH", "UNFIT", "NOUGHT", "FULL");
    for (int i = 0; i < constants.size(); i++) {
      Field field = FACE.getField(constants.get(i));
      Check.due(constants.get(i), field.getInt(null), -1 - i);
      Check.due("kind of " + constants.get(i), field.toString(), "public static final int HiddenSteps." + constants.get(i));
    }
    Check.sentence("these constants, and no other public members");
    Set<String> fields = new TreeSet<>();
    for (Field f : FACE.getDeclaredFields()) if (!isHidden(f)) fields.add(f.getName());
    Check.due("fields", fields, new TreeSet<>(constants));
    for (Class<?> inside : FACE.getDeclaredClasses()) {
      Check.due(inside.getName() + " is public", Modifier.isPublic(inside.getModifiers()), false);
    }
  }

  // ---- the room ----

  /** An object or array takes Java 16 bytes or more; bytes for 600,000 of them hold fewer fields than the room has, too. */
  private static final long ROOM_BYTES = 16L * 600_000;

  private static long allocated() {
    return ((com.sun.management.ThreadMXBean) java.lang.management.ManagementFactory.getThreadMXBean())
        .getThreadAllocatedBytes(Thread.currentThread().getId());
  }

  private static long takenBy(Runnable run) {
    allocated();
    long before = allocated();
    run.run();
    return allocated() - before;
  }

  /** Eight states, five signs, everything as likely as anything else: 113 calls. */
  private static void makeEven(HiddenSteps x) {
    int c = x.chain(8, 5, 1000);
    for (int s = 0; s < 8; s++) {
      x.begin(c, s, 125);
      for (int t = 0; t < 8; t++) x.go(c, s, t, 125);
      for (int k = 0; k < 5; k++) x.show(c, s, k, 200);
    }
  }

  /** Two great chains and 60 places; then each call that counts much, 25 times: 512 calls. */
  private static void dearestCalls() {
    HiddenSteps x = new HiddenSteps();
    makeEven(x);
    makeEven(x);
    for (int i = 0; i < 60; i++) x.sign(i % 6 - 1);
    for (int i = 0; i < 25; i++) {
      x.best(0, 19);
      x.sum(0);
      x.compare(0, 1);
      x.moment(0, 30);
      x.odds(0, 30, 7, 2);
      x.same(0, 1);
      x.twins(0, 3, 4);
    }
    for (int i = 0; i < 51; i++) x.apart(0, 1);
  }

  private static void makeAndRemove() {
    HiddenSteps x = new HiddenSteps();
    for (int i = 0; i < 256; i++) {
      x.chain(8, 6, 1000);
      x.remove();
    }
  }

  private static void runsStayInTheirRoom() {
    Check.sentence("All calls of one run live in one room");
    Check.due("the dearest calls", takenBy(FaceTests::dearestCalls) < ROOM_BYTES / 10, true);
    Check.due("the most chains", takenBy(FaceTests::makeAndRemove) < ROOM_BYTES / 10, true);
    Check.due("many objects", takenBy(() -> {
      for (int i = 0; i < 200; i++) new HiddenSteps();
    }) < ROOM_BYTES, true);
  }

  // ---- no call throws ----

  private static final int[] NUMBERS = {Integer.MIN_VALUE, Integer.MIN_VALUE + 1, -(1 << 30), -1001, -61, -3, -2, -1, 0, 0, 1, 1, 2, 3, 4,
      5, 6, 7, 8, 9, 10, 19, 20, 21, 25, 26, 59, 60, 61, 999, 1000, 1001, 1 << 26, 1 << 27, 1 << 28, 1 << 29, 1 << 30,
      Integer.MAX_VALUE - 1, Integer.MAX_VALUE};

  /** Any of the numbers, but most often a small one, for else hardly any call would be taken. */
  private static int number(Random random) {
    return random.nextInt(4) == 0 ? NUMBERS[random.nextInt(NUMBERS.length)] : random.nextInt(9) - 1;
  }

  private static Object[] numbers(Random random, int n) {
    Object[] made = new Object[n];
    for (int i = 0; i < n; i++) made[i] = number(random);
    return made;
  }

  private static void noCallThrows() throws IllegalAccessException {
    Method[] methods = Arrays.stream(FACE.getDeclaredMethods()).filter(m -> !isHidden(m)).toArray(Method[]::new);
    Arrays.sort(methods, Comparator.comparing(Method::getName));
    for (int seed = 0; seed < 60; seed++) {
      Check.sentence("no call throws, also behind the 512th");
      Random random = new Random(seed);
      HiddenSteps x = new HiddenSteps();
      for (int c = 0; c < seed % 4; c++) makeEven(x);
      for (int i = 0; i < 5000; i++) {
        Method m = methods[random.nextInt(methods.length)];
        Object[] asked = numbers(random, m.getParameterCount());
        try {
          m.invoke(x, asked);
        } catch (InvocationTargetException thrown) {
          Check.due(m.getName() + Arrays.toString(asked) + " threw", thrown.getCause(), "nothing");
        }
      }
    }
  }

  public static void main(String[] args) throws ReflectiveOperationException {
    classIsTheDocuments();
    methodsAreTheDocuments();
    constantsAreTheDocuments();
    runsStayInTheirRoom();
    noCallThrows();
    Check.end("the face and the room are as due, and no call throws");
  }
}
