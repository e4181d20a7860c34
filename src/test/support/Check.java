/** What the tests of edges share: the sentence that is being tested, and how many answers were not as due. */
final class Check {
  private static final int MOST_SHOWN = 40;

  private static String sentence = "";
  private static int wrong = 0;

  private Check() {
  }

  /** What comes next tests this sentence of the document. */
  static void sentence(String words) {
    sentence = words;
  }

  static void due(String what, Object got, Object want) {
    if (!got.equals(want)) {
      wrong++;
      if (wrong <= MOST_SHOWN) System.out.println("[" + sentence + "] " + what + " answered " + got + ", due is " + want);
    }
  }

  static void end(String held) {
    System.out.println(wrong == 0 ? held : wrong + " answers are not as due");
    if (wrong != 0) System.exit(1);
  }
}
