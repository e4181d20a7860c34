import java.util.Arrays;
import java.util.Map;
import java.util.Set;
import java.util.TreeMap;
import java.util.TreeSet;
import java.util.function.Supplier;

/**
 * The REFUSALS of each call: the last number that is allowed and the first that is not, on both sides, and numbers far
 * away; each refusal alone, and two at once where their order decides. After each refused call all that can be seen of
 * the object is held against an object that was not asked. At the end: what a call that is taken leaves alone.
 */
public final class RefusalTests {
  private static final int NONE = HiddenSteps.NONE;
  private static final int EMPTY = HiddenSteps.EMPTY;
  private static final int ROUGH = HiddenSteps.ROUGH;
  private static final int UNFIT = HiddenSteps.UNFIT;
  private static final int NOUGHT = HiddenSteps.NOUGHT;
  private static final int FULL = HiddenSteps.FULL;
  /** What at() and compare() answer for a refusal. */
  private static final int TWO_BELOW = -2;

  // ---- stages: objects on which a change would be seen ----

  /** No chain; a row that no call may change. */
  private static Bench bare() {
    return new Bench().row(0, -1, 5);
  }

  /** The least chain there can be, and one place. */
  private static Bench least() {
    Bench x = new Bench();
    x.single(1);
    x.row(0);
    x.ask("best(0, 0)");
    return x;
  }

  /** Six chains, the last of them the greatest there can be, and sixty places. */
  private static Bench most() {
    Bench x = new Bench();
    for (int c = 0; c < 5; c++) x.single(1);
    x.ring(1000, 6, 0, 0, 0, 0, 0, 0, 0, 0);
    int[] row = new int[60];
    for (int i = 0; i < 60; i++) row[i] = i % 2 - 1;
    x.row(row);
    x.ask("best(5, 0)");
    return x;
  }

  /** As many states as there can be, a chain before and one behind, so that a weight astray would be seen. */
  private static Bench wide() {
    Bench x = new Bench();
    x.single(3, 4);
    x.make(36, new int[] {1, 2, 3, 4, 5, 6, 7, 8}, shifted(8, 1, 2, 3, 4, 5, 6, 7, 8), shifted(6, 11, 1, 9, 3, 7, 5));
    x.single(5, 6);
    x.row(0, -1, 1);
    x.ask("best(1, 3)");
    x.ask("sum(1)");
    return x;
  }

  /** Eight rows of so many weights, each one the row before it moved on by one. */
  private static int[][] shifted(int width, int... weights) {
    int[][] made = new int[8][width];
    for (int s = 0; s < 8; s++) for (int k = 0; k < width; k++) made[s][k] = weights[(s + k) % width];
    return made;
  }

  /** Chains of the stage with the refusals: what each of them is there for. */
  private static final int GOOD = 0, FEW_SIGNS = 1, OTHER_TOTAL = 2, UNSOUND = 3, APART = 4, ONLY_0 = 5;

  /** Six chains of these kinds; THE WHOLE and the states found are of another row than the one that stands then. */
  private static Bench mixed(int... row) {
    Bench x = new Bench();
    x.make(10, new int[] {6, 4}, new int[][] {{7, 3}, {4, 6}}, new int[][] {{5, 4, 1}, {1, 3, 6}});
    x.make(10, new int[] {1, 2, 7}, new int[][] {{1, 2, 7}, {3, 3, 4}, {0, 0, 10}}, new int[][] {{5, 5}, {1, 9}, {8, 2}});
    x.make(1000, new int[] {600, 400}, new int[][] {{700, 300}, {400, 600}}, new int[][] {{500, 400, 100}, {100, 300, 600}});
    // Sign 2 is never shown: the chance of a row with it is 0 here, were this chain asked.
    x.make(10, new int[] {6, 3}, new int[][] {{7, 3}, {4, 6}}, new int[][] {{5, 5, 0}, {1, 9, 0}});
    x.make(10, new int[] {6, 4}, new int[][] {{7, 3}, {4, 6}}, new int[][] {{5, 4, 1}, {1, 4, 5}});
    x.single(10, 0, 0);
    x.row(0, -1, 1, 0);
    x.ask("best(0, 1)");
    x.ask("sum(2)");
    return x.row(row);
  }

  // ---- what is due ----

  private static void refused(Supplier<Bench> stage, String call, long want) {
    changesOnly(stage, call, want);
  }

  /** The call answers so on the mixed stage with this row, whether it is refused or only tells. */
  private static void nothingChanges(String call, long want, int... row) {
    refused(() -> mixed(row), call, want);
  }

  /** The call answers so, and of all that can be seen it changes these headings and no other. */
  private static void changesOnly(Supplier<Bench> stage, String call, long want, String... headings) {
    Bench asked = stage.get();
    asked.due(call, want);
    Map<String, String> after = asked.look();
    Map<String, String> before = stage.get().look();
    Set<String> changed = new TreeSet<>();
    for (String heading : before.keySet()) if (!before.get(heading).equals(after.get(heading))) changed.add(heading);
    Check.due("what changed by " + call, changed, new TreeSet<>(Arrays.asList(headings)));
  }

  /** Numbers that are not least .. most: those beside them, the ends of int, and those that wrap round when multiplied. */
  private static int[] outside(int least, int most) {
    int[] far = {Integer.MIN_VALUE, Integer.MIN_VALUE + 1, -(1 << 30), -(1 << 29), -60, -8, least - 2, least - 1,
        most + 1, most + 2, 60, 256, 1001, 1 << 16, 1 << 26, 1 << 27, 1 << 28, 1 << 29, 1 << 30, (1 << 30) + 1,
        Integer.MAX_VALUE - 1, Integer.MAX_VALUE};
    return Arrays.stream(far).filter(v -> v < least || v > most).distinct().toArray();
  }

  private static String put(String template, int number) {
    return template.replace("#", Integer.toString(number));
  }

  private static void refusedOutside(Supplier<Bench> stage, String template, int least, int most, long refusal) {
    for (int v : outside(least, most)) refused(stage, put(template, v), refusal);
  }

  /** At # the numbers least .. most are taken, and no others. */
  private static void bounds(Supplier<Bench> stage, String template, int least, int most, long refusal) {
    refusedOutside(stage, template, least, most, refusal);
    for (int v : new int[] {least, most}) {
      String call = put(template, v);
      Check.due(call + " is taken", stage.get().ask(call) != refusal, true);
    }
  }

  private static void bounds(Supplier<Bench> stage, String template, int least, int most) {
    bounds(stage, template, least, most, NONE);
  }

  // ---- the bounds of each number ----

  /** Every call that takes the number of a chain, at #; @ is a chain that is there. */
  private static final String[] OF_A_CHAIN = {"begin(#, 0, 0)", "go(#, 0, 0, 0)", "show(#, 0, 0, 0)", "sound(#)", "told(#, 0)",
      "told(#, 2)", "sum(#)", "odds(#, 0, 0, 0)", "odds(#, 0, 0, 1)", "odds(#, 0, 0, 2)", "moment(#, 0)", "best(#, 0)",
      "same(#, @)", "same(@, #)", "same(#, #)", "apart(#, @)", "apart(@, #)", "apart(#, #)", "twins(#, 0, 0)"};
  private static final String[] OF_TWO_CHAINS = {"compare(#, @)", "compare(@, #)", "compare(#, #)"};

  private static void chainNumbers() {
    for (String call : OF_A_CHAIN) {
      Check.sentence("NONE: no such chain; CHAINS have the numbers 0 .. 5");
      String name = call.replace("@", "0");
      refusedOutside(RefusalTests::bare, name, 0, -1, NONE);
      bounds(RefusalTests::least, name, 0, 0);
      bounds(RefusalTests::wide, name, 0, 2);
      bounds(RefusalTests::most, name, 0, 5);
    }
    for (String call : OF_TWO_CHAINS) {
      Check.sentence("16 compare: -2 is NONE of either: no such chain");
      String name = call.replace("@", "0");
      refusedOutside(RefusalTests::bare, name, 0, -1, TWO_BELOW);
      bounds(RefusalTests::least, name, 0, 0, TWO_BELOW);
      bounds(RefusalTests::wide, name, 0, 2, TWO_BELOW);
      bounds(RefusalTests::most, name, 0, 5, TWO_BELOW);
    }
  }

  private static void sizesOfAChain() {
    Check.sentence("2 chain: n is 1 .. 8");
    bounds(RefusalTests::wide, "chain(#, 1, 1)", 1, 8);
    bounds(RefusalTests::wide, "chain(#, 6, 1000)", 1, 8);
    Check.sentence("2 chain: m is 1 .. 6");
    bounds(RefusalTests::wide, "chain(1, #, 1)", 1, 6);
    bounds(RefusalTests::wide, "chain(8, #, 1000)", 1, 6);
    Check.sentence("2 chain: T is 1 .. 1000");
    bounds(RefusalTests::wide, "chain(1, 1, #)", 1, 1000);
    bounds(RefusalTests::wide, "chain(8, 6, #)", 1, 1000);
    Check.sentence("2 chain: all three are not as said");
    for (String w : new String[] {"0", "-1", "MIN", "MAX"}) refused(RefusalTests::wide, "chain(" + w + ", " + w + ", " + w + ")", NONE);
  }

  private static void statesOfAChain() {
    String[] calls = {"begin(@, #, 0)", "go(@, #, 0, 0)", "go(@, 0, #, 0)", "go(@, #, #, 0)", "show(@, #, 0, 0)", "odds(@, 0, #, 0)",
        "odds(@, 0, #, 1)", "odds(@, 0, #, 2)", "twins(@, #, 0)", "twins(@, 0, #)", "twins(@, #, #)"};
    for (String call : calls) {
      Check.sentence("NONE: no such state; STATES 0 .. n - 1");
      bounds(RefusalTests::least, call.replace("@", "0"), 0, 0);
      bounds(RefusalTests::wide, call.replace("@", "0"), 0, 0);
      bounds(RefusalTests::wide, call.replace("@", "1"), 0, 7);
      bounds(RefusalTests::most, call.replace("@", "5"), 0, 7);
      bounds(() -> mixed(0), call.replace("@", "" + FEW_SIGNS), 0, 2);
    }
  }

  private static void signsOfAChain() {
    Check.sentence("5 show: NONE: no such sign; SIGNS 0 .. m - 1");
    bounds(RefusalTests::least, "show(0, 0, #, 0)", 0, 0);
    bounds(RefusalTests::wide, "show(0, 0, #, 0)", 0, 1);
    bounds(RefusalTests::wide, "show(1, 0, #, 0)", 0, 5);
    bounds(RefusalTests::wide, "show(1, 7, #, 0)", 0, 5);
    bounds(RefusalTests::most, "show(5, 7, #, 0)", 0, 5);
    bounds(() -> mixed(0), "show(1, 2, #, 0)", 0, 1);
  }

  private static void weights() {
    String[] calls = {"begin(@, 0, #)", "go(@, 0, 0, #)", "show(@, 0, 0, #)"};
    for (String call : calls) {
      Check.sentence("WEIGHTS are 0 .. T");
      bounds(RefusalTests::least, call.replace("@", "0"), 0, 1);
      bounds(RefusalTests::wide, call.replace("@", "1"), 0, 36);
      bounds(RefusalTests::most, call.replace("@", "5"), 0, 1000);
      bounds(() -> mixed(0), call.replace("@", "" + UNSOUND), 0, 10);
    }
    for (String w : new String[] {"-1", "37", "MIN", "MAX"}) {
      Check.sentence("3, 4, 5: no number is as said");
      refused(RefusalTests::wide, "begin(" + w + ", " + w + ", " + w + ")", NONE);
      refused(RefusalTests::wide, "go(" + w + ", " + w + ", " + w + ", " + w + ")", NONE);
      refused(RefusalTests::wide, "show(" + w + ", " + w + ", " + w + ", " + w + ")", NONE);
    }
  }

  private static void kindsOfAnswers() {
    Check.sentence("7 told: what is 0 .. 2");
    bounds(RefusalTests::least, "told(0, #)", 0, 2);
    bounds(RefusalTests::most, "told(5, #)", 0, 2);
    bounds(() -> mixed(0), "told(3, #)", 0, 2);
    Check.sentence("12 odds: how is 0 .. 2 (NONE: another how, too)");
    bounds(RefusalTests::least, "odds(0, 0, 0, #)", 0, 2);
    bounds(RefusalTests::most, "odds(5, 59, 7, #)", 0, 2);
    Check.sentence("21 count: what is 0 or 1");
    bounds(Bench::new, "count(#)", 0, 1);
    bounds(RefusalTests::most, "count(#)", 0, 1);
  }

  private static void signsOfTheRow() {
    Check.sentence("8 sign: a sign is 0 .. 5, a MISSED place -1");
    bounds(Bench::new, "sign(#)", -1, 5);
    bounds(RefusalTests::bare, "sign(#)", -1, 5);
    bounds(RefusalTests::least, "sign(#)", -1, 5);
  }

  private static void placesOfTheRow() {
    Check.sentence("9 cut: NONE: THE ROW has not so many places");
    bounds(Bench::new, "cut(#)", 0, 0);
    bounds(RefusalTests::least, "cut(#)", 0, 1);
    bounds(RefusalTests::bare, "cut(#)", 0, 3);
    bounds(RefusalTests::most, "cut(#)", 0, 60);
    Check.sentence("10 at: -2: there is no such place");
    refusedOutside(Bench::new, "at(#)", 0, -1, TWO_BELOW);
    bounds(RefusalTests::least, "at(#)", 0, 0, TWO_BELOW);
    bounds(RefusalTests::bare, "at(#)", 0, 2, TWO_BELOW);
    bounds(RefusalTests::most, "at(#)", 0, 59, TWO_BELOW);
    for (String call : new String[] {"odds(@, #, 0, 0)", "odds(@, #, 0, 1)", "odds(@, #, 0, 2)", "moment(@, #)"}) {
      Check.sentence("12 odds, 13 moment: NONE: no such place");
      bounds(RefusalTests::least, call.replace("@", "0"), 0, 0);
      bounds(RefusalTests::wide, call.replace("@", "1"), 0, 2);
      bounds(RefusalTests::most, call.replace("@", "5"), 0, 59);
      Check.sentence("12 odds, 13 moment: NONE also if THE ROW is empty");
      refusedOutside(() -> mixed(), call.replace("@", "" + GOOD), 0, -1, NONE);
    }
  }

  private static void ranksAndParts() {
    Check.sentence("14 best: k is 0 .. 19");
    bounds(RefusalTests::least, "best(0, #)", 0, 19);
    bounds(RefusalTests::wide, "best(1, #)", 0, 19);
    bounds(RefusalTests::most, "best(5, #)", 0, 19);
    Check.sentence("15 state: NONE: there is none such");
    refusedOutside(RefusalTests::bare, "state(#)", 0, -1, NONE);
    bounds(RefusalTests::least, "state(#)", 0, 0);
    bounds(RefusalTests::wide, "state(#)", 0, 2);
    bounds(RefusalTests::most, "state(#)", 0, 59);
    bounds(() -> mixed(0), "state(#)", 0, 3);
    Check.sentence("20 part: NONE: k is not 0 .. 25");
    bounds(Bench::new, "part(#)", 0, 25);
    bounds(RefusalTests::wide, "part(#)", 0, 25);
    bounds(RefusalTests::most, "part(#)", 0, 25);
  }

  // ---- each refusal alone, and two at once ----

  private static void refusalsOfChainSignRemove() {
    Check.sentence("2 chain: FULL: 6 chains");
    refused(RefusalTests::most, "chain(1, 1, 1)", FULL);
    refused(RefusalTests::most, "chain(8, 6, 1000)", FULL);
    nothingChanges("chain(2, 3, 10)", FULL, 0);
    Check.sentence("2 chain: NONE before FULL");
    refusedOutside(RefusalTests::most, "chain(#, 1, 1)", 1, 8, NONE);
    refusedOutside(RefusalTests::most, "chain(1, #, 1)", 1, 6, NONE);
    refusedOutside(RefusalTests::most, "chain(1, 1, #)", 1, 1000, NONE);
    Check.sentence("8 sign: FULL: 60 places");
    for (int x = -1; x <= 5; x++) refused(RefusalTests::most, Bench.text("sign", x), FULL);
    Check.sentence("8 sign: NONE before FULL");
    refusedOutside(RefusalTests::most, "sign(#)", -1, 5, NONE);
    Check.sentence("22 remove: NONE: there is no chain");
    refused(Bench::new, "remove()", NONE);
    refused(RefusalTests::bare, "remove()", NONE);
  }

  private static void refusalsOfSum() {
    Check.sentence("11 sum: EMPTY alone");
    nothingChanges("sum(0)", EMPTY);
    Check.sentence("11 sum: ROUGH alone");
    nothingChanges("sum(3)", ROUGH, 0);
    nothingChanges("sum(3)", ROUGH, -1, 2, 1);
    Check.sentence("11 sum: UNFIT alone");
    nothingChanges("sum(1)", UNFIT, 2);
    nothingChanges("sum(1)", UNFIT, 2, 0, -1);
    nothingChanges("sum(1)", UNFIT, -1, 0, 2);
    nothingChanges("sum(0)", UNFIT, 0, 3, 0);
    Check.sentence("11 sum: NONE before EMPTY");
    nothingChanges("sum(6)", NONE);
    nothingChanges("sum(-1)", NONE);
    Check.sentence("11 sum: EMPTY before ROUGH");
    nothingChanges("sum(3)", EMPTY);
    Check.sentence("11 sum: ROUGH before UNFIT");
    nothingChanges("sum(3)", ROUGH, 3);
    nothingChanges("sum(3)", ROUGH, 0, 5);
  }

  private static void refusalsOfOdds() {
    for (int how = 0; how <= 2; how++) {
      String with = ", " + how + ")";
      Check.sentence("12 odds: NONE, and not EMPTY, if THE ROW is empty");
      nothingChanges("odds(0, 0, 0" + with, NONE);
      Check.sentence("12 odds: ROUGH alone");
      nothingChanges("odds(3, 0, 0" + with, ROUGH, 0);
      nothingChanges("odds(3, 1, 1" + with, ROUGH, 0, -1);
      Check.sentence("12 odds: UNFIT alone, wherever the sign stands");
      for (int i = 0; i < 3; i++) {
        nothingChanges("odds(1, " + i + ", 0" + with, UNFIT, 0, 2, -1);
        nothingChanges("odds(1, " + i + ", 2" + with, UNFIT, 2, 0, 0);
        nothingChanges("odds(1, " + i + ", 2" + with, UNFIT, -1, 0, 5);
      }
      Check.sentence("12 odds: NONE before ROUGH");
      nothingChanges("odds(3, 0, 0" + with, NONE);
      nothingChanges("odds(3, 1, 0" + with, NONE, 0);
      nothingChanges("odds(3, -1, 0" + with, NONE, 0);
      nothingChanges("odds(3, 0, 2" + with, NONE, 0);
      nothingChanges("odds(3, 0, -1" + with, NONE, 0);
      Check.sentence("12 odds: NONE before UNFIT");
      nothingChanges("odds(1, 1, 0" + with, NONE, 2);
      nothingChanges("odds(1, 0, 3" + with, NONE, 2);
      nothingChanges("odds(6, 0, 0" + with, NONE, 5);
      Check.sentence("12 odds: ROUGH before UNFIT");
      nothingChanges("odds(3, 0, 0" + with, ROUGH, 3);
      nothingChanges("odds(3, 0, 1" + with, ROUGH, 0, 5);
    }
    Check.sentence("12 odds: NONE for how, before ROUGH and UNFIT");
    nothingChanges("odds(3, 0, 0, 3)", NONE, 0);
    nothingChanges("odds(3, 0, 0, -1)", NONE, 0);
    nothingChanges("odds(1, 0, 0, 3)", NONE, 2);
    nothingChanges("odds(1, 0, 0, -1)", NONE, 2);
  }

  private static void refusalsOfMoment() {
    Check.sentence("13 moment: NONE, and not EMPTY, if THE ROW is empty");
    nothingChanges("moment(0, 0)", NONE);
    Check.sentence("13 moment: ROUGH alone");
    nothingChanges("moment(3, 0)", ROUGH, 0);
    Check.sentence("13 moment: UNFIT alone, wherever the sign stands");
    for (int i = 0; i < 3; i++) {
      nothingChanges(Bench.text("moment", FEW_SIGNS, i), UNFIT, 0, 2, -1);
      nothingChanges(Bench.text("moment", FEW_SIGNS, i), UNFIT, 2, -1, 0);
      nothingChanges(Bench.text("moment", FEW_SIGNS, i), UNFIT, -1, 0, 2);
    }
    Check.sentence("13 moment: NOUGHT alone, at each place");
    nothingChanges("moment(5, 0)", NOUGHT, 1);
    for (int i = 0; i < 4; i++) nothingChanges(Bench.text("moment", ONLY_0, i), NOUGHT, 0, -1, 2, 0);
    Check.sentence("13 moment: NONE before ROUGH, UNFIT and NOUGHT");
    nothingChanges("moment(3, 0)", NONE);
    nothingChanges("moment(3, 1)", NONE, 0);
    nothingChanges("moment(3, -1)", NONE, 0);
    nothingChanges("moment(1, 1)", NONE, 2);
    nothingChanges("moment(6, 0)", NONE, 5);
    nothingChanges("moment(5, 1)", NONE, 1);
    nothingChanges("moment(5, -1)", NONE, 1);
    Check.sentence("13 moment: ROUGH before UNFIT and NOUGHT");
    nothingChanges("moment(3, 0)", ROUGH, 3);
    nothingChanges("moment(3, 0)", ROUGH, 2);
    nothingChanges("moment(3, 1)", ROUGH, 2, 5);
    Check.sentence("13 moment: UNFIT before NOUGHT");
    nothingChanges("moment(5, 0)", UNFIT, 1, 3);
    nothingChanges("moment(5, 1)", UNFIT, 3, 1);
  }

  private static void refusalsOfBest() {
    Check.sentence("14 best: EMPTY alone");
    nothingChanges("best(0, 0)", EMPTY);
    nothingChanges("best(0, 19)", EMPTY);
    Check.sentence("14 best: ROUGH alone");
    nothingChanges("best(3, 0)", ROUGH, 0);
    Check.sentence("14 best: UNFIT alone");
    nothingChanges("best(1, 0)", UNFIT, 2);
    nothingChanges("best(1, 0)", UNFIT, 2, -1, 0);
    nothingChanges("best(1, 19)", UNFIT, 0, -1, 2);
    Check.sentence("14 best: NONE before EMPTY");
    nothingChanges("best(6, 0)", NONE);
    nothingChanges("best(0, 20)", NONE);
    nothingChanges("best(0, -1)", NONE);
    Check.sentence("14 best: NONE before ROUGH and UNFIT");
    nothingChanges("best(3, 20)", NONE, 0);
    nothingChanges("best(3, -1)", NONE, 0);
    nothingChanges("best(1, 20)", NONE, 2);
    nothingChanges("best(1, -1)", NONE, 2);
    Check.sentence("14 best: EMPTY before ROUGH");
    nothingChanges("best(3, 0)", EMPTY);
    Check.sentence("14 best: ROUGH before UNFIT");
    nothingChanges("best(3, 0)", ROUGH, 3);
    Check.sentence("14 best: 0, and nothing changes: there are not so many");
    nothingChanges("best(5, 0)", 0, 1);
    nothingChanges("best(5, 19)", 0, 1);
    nothingChanges("best(5, 1)", 0, 0, -1, 0);
    nothingChanges("best(0, 2)", 0, 0);
    Check.sentence("14 best: a refusal before 0 for not so many");
    nothingChanges("best(5, 20)", NONE, 1);
    nothingChanges("best(5, -1)", NONE, 1);
    nothingChanges("best(3, 0)", ROUGH, 2);
    nothingChanges("best(5, 0)", UNFIT, 1, 3);
  }

  private static void refusalsOfCompare() {
    Check.sentence("16 compare: -2 is EMPTY");
    nothingChanges("compare(0, 4)", TWO_BELOW);
    nothingChanges("compare(0, 0)", TWO_BELOW);
    Check.sentence("16 compare: -2 is ROUGH of either");
    nothingChanges("compare(0, 3)", TWO_BELOW, 0);
    nothingChanges("compare(3, 0)", TWO_BELOW, 0);
    nothingChanges("compare(3, 3)", TWO_BELOW, 0);
    Check.sentence("16 compare: -2 is UNFIT of either");
    nothingChanges("compare(0, 1)", TWO_BELOW, 0, 2);
    nothingChanges("compare(1, 0)", TWO_BELOW, 2, 0);
    nothingChanges("compare(1, 1)", TWO_BELOW, 2);
    nothingChanges("compare(0, 0)", TWO_BELOW, -1, 3);
    Check.sentence("16 compare: -2 is two refusals at once, too");
    nothingChanges("compare(6, 0)", TWO_BELOW);
    nothingChanges("compare(-1, 3)", TWO_BELOW, 0);
    nothingChanges("compare(3, 6)", TWO_BELOW, 5);
    nothingChanges("compare(3, 0)", TWO_BELOW);
    nothingChanges("compare(3, 1)", TWO_BELOW, 2);
    nothingChanges("compare(1, 3)", TWO_BELOW, 2);
    Check.sentence("16 compare: unlike TOTALS and numbers of signs are no refusal, for each is out of its own T");
    nothingChanges("compare(0, 2)", 0, 0, -1, 1);
    nothingChanges("compare(2, 0)", 0, 0, -1, 1);
    nothingChanges("compare(5, 1)", 1, 0);
    nothingChanges("compare(1, 5)", -1, 0);
  }

  private static void refusalsOfPairs(String name) {
    Check.sentence(name + ": NONE before ROUGH");
    for (String other : new String[] {"6", "-1", "MIN", "MAX"}) {
      nothingChanges(name + "(3, " + other + ")", NONE, 0, -1, 5);
      nothingChanges(name + "(" + other + ", 3)", NONE, 0, -1, 5);
    }
    Check.sentence(name + ": ROUGH alone, of either");
    nothingChanges(name + "(0, 3)", ROUGH, 0, -1, 5);
    nothingChanges(name + "(3, 0)", ROUGH, 0, -1, 5);
    nothingChanges(name + "(3, 3)", ROUGH, 0, -1, 5);
    Check.sentence(name + ": UNFIT alone: not as many signs");
    nothingChanges(name + "(0, 1)", UNFIT, 0, -1, 1);
    nothingChanges(name + "(1, 0)", UNFIT, 0, -1, 1);
    Check.sentence(name + ": UNFIT alone: not one TOTAL");
    nothingChanges(name + "(0, 2)", UNFIT, 0, -1, 1);
    nothingChanges(name + "(2, 0)", UNFIT, 0, -1, 1);
    Check.sentence(name + ": UNFIT alone: neither");
    nothingChanges(name + "(1, 2)", UNFIT, 0, -1, 1);
    nothingChanges(name + "(2, 1)", UNFIT, 0, -1, 1);
    Check.sentence(name + ": ROUGH before UNFIT");
    for (int other : new int[] {FEW_SIGNS, OTHER_TOTAL}) {
      nothingChanges(Bench.text(name, UNSOUND, other), ROUGH, 0, -1, 5);
      nothingChanges(Bench.text(name, other, UNSOUND), ROUGH, 0, -1, 5);
    }
  }

  private static void whatSameAndApartDoNotRefuse() {
    for (int[] row : new int[][] {{}, {5}, {1, -1, 3}}) {
      Check.sentence("17 same: neither EMPTY nor a row that does not FIT is a refusal");
      nothingChanges("same(0, 0)", 1, row);
      nothingChanges("same(0, 4)", 0, row);
      Check.sentence("18 apart: neither EMPTY nor a row that does not FIT is a refusal");
      changesOnly(() -> mixed(row), "apart(0, 4)", 1, "row");
      changesOnly(() -> mixed(row), "apart(4, 0)", 1, "row");
      changesOnly(() -> mixed(row), "apart(4, 4)", 0, row.length == 0 ? new String[0] : new String[] {"row"});
    }
  }

  private static void refusalsOfTwins() {
    Check.sentence("19 twins: ROUGH alone");
    nothingChanges("twins(3, 0, 1)", ROUGH, 0);
    nothingChanges("twins(3, 1, 1)", ROUGH, 0);
    Check.sentence("19 twins: NONE before ROUGH");
    for (String other : new String[] {"2", "-1", "MIN", "MAX"}) {
      nothingChanges("twins(3, " + other + ", 0)", NONE, 0);
      nothingChanges("twins(3, 0, " + other + ")", NONE, 0);
      nothingChanges("twins(3, " + other + ", " + other + ")", NONE, 0);
    }
    Check.sentence("19 twins: neither EMPTY nor a row that does not FIT is a refusal");
    nothingChanges("twins(0, 0, 1)", 0);
    nothingChanges("twins(0, 1, 1)", 1);
    nothingChanges("twins(0, 0, 1)", 0, 5);
    nothingChanges("twins(0, 0, 0)", 1, 5);
    Check.sentence("19 twins: NOUGHT is no refusal");
    nothingChanges("twins(5, 0, 0)", 1, 1);
  }

  // ---- what calls that are taken leave alone ----

  private static void callsThatOnlyTell() {
    Check.sentence("a call that only tells changes nothing");
    Map<String, Integer> calls = new TreeMap<>(Map.of("sound(0)", 1, "sound(3)", 0, "told(2, 2)", 1000, "at(1)", -1, "state(0)", 0,
        "count(0)", 6, "count(1)", 3, "part(25)", 0, "moment(0, 0)", 0, "compare(0, 4)", -1));
    calls.putAll(Map.of("compare(4, 0)", 1, "compare(0, 2)", 0, "same(0, 4)", 0, "same(4, 4)", 1, "twins(0, 0, 1)", 0,
        "twins(0, 1, 1)", 1));
    for (Map.Entry<String, Integer> e : calls.entrySet()) nothingChanges(e.getKey(), e.getValue(), 0, -1, 1);
  }

  private static void callsThatChangeOneThing() {
    Supplier<Bench> stage = () -> mixed(0, -1, 1);
    Check.sentence("8 sign, 9 cut: THE ROW alone changes");
    changesOnly(stage, "sign(5)", 4, "row");
    changesOnly(stage, "sign(-1)", 4, "row");
    changesOnly(stage, "cut(2)", 2, "row");
    changesOnly(stage, "cut(0)", 0, "row");
    changesOnly(stage, "cut(3)", 3);
    Check.sentence("11 sum, 12 odds: THE WHOLE alone changes");
    changesOnly(stage, "sum(0)", 6, "whole");
    changesOnly(stage, "odds(0, 0, 0, 0)", 2, "whole");
    changesOnly(stage, "odds(0, 2, 1, 1)", 1, "whole");
    changesOnly(stage, "odds(0, 2, 1, 2)", 5, "whole");
    Check.sentence("14 best: THE WHOLE and the states alone change");
    changesOnly(stage, "best(0, 0)", 5, "whole", "states");
    Check.sentence("18 apart: THE ROW alone changes");
    changesOnly(stage, "apart(0, 4)", 1, "row");
    changesOnly(stage, "apart(4, 4)", 0, "row");
    Check.sentence("2 to 5, 22: the chains alone change");
    changesOnly(stage, "begin(0, 1, 10)", 4, "chains");
    changesOnly(stage, "go(1, 2, 1, 10)", 0, "chains");
    changesOnly(stage, "show(2, 0, 2, 1000)", 100, "chains");
    changesOnly(stage, "remove()", 5, "chains");
    changesOnly(RefusalTests::wide, "chain(1, 1, 1)", 3, "chains");
  }

  public static void main(String[] args) {
    chainNumbers();
    sizesOfAChain();
    statesOfAChain();
    signsOfAChain();
    weights();
    kindsOfAnswers();
    signsOfTheRow();
    placesOfTheRow();
    ranksAndParts();
    refusalsOfChainSignRemove();
    refusalsOfSum();
    refusalsOfOdds();
    refusalsOfMoment();
    refusalsOfBest();
    refusalsOfCompare();
    refusalsOfPairs("same");
    refusalsOfPairs("apart");
    whatSameAndApartDoNotRefuse();
    refusalsOfTwins();
    callsThatOnlyTell();
    callsThatChangeOneThing();
    Check.end("the refusals are as due");
  }
}
