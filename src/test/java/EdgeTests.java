import java.lang.reflect.Field;
import java.math.BigInteger;
import java.util.Arrays;
import java.util.function.IntUnaryOperator;

/** The edges at which a call answers: for each sentence of the document that names one, a test of its own. */
public final class EdgeTests {
  private static final int NONE = HiddenSteps.NONE;
  private static final int EMPTY = HiddenSteps.EMPTY;
  private static final int ROUGH = HiddenSteps.ROUGH;
  private static final int UNFIT = HiddenSteps.UNFIT;
  private static final int FULL = HiddenSteps.FULL;
  private static final int MISSED = -1;
  private static final int NO_PLACE = -2;

  private static BigInteger big(long value) {
    return BigInteger.valueOf(value);
  }

  private static int[] times(int n, int value) {
    int[] made = new int[n];
    Arrays.fill(made, value);
    return made;
  }

  // ---- chains ----

  private static void newObject() {
    Check.sentence("1: no chains");
    Bench x = new Bench();
    x.due("count(0)", 0).due("remove()", NONE).due("sound(0)", NONE);
    Check.sentence("1: THE ROW is empty");
    x.rowIs();
    Check.sentence("1: THE WHOLE is 0");
    Check.due("THE WHOLE", x.whole(), BigInteger.ZERO);
    Check.sentence("15: there is no row of states before best() found one");
    x.statesAre();
    Check.sentence("All memory is the object's own");
    Bench other = new Bench();
    other.single(1);
    other.row(0);
    other.ask("best(0, 0)");
    x.due("count(0)", 0).due("count(1)", 0).due("part(0)", 0).due("state(0)", NONE);
  }

  private static void chainNumbers() {
    Check.sentence("2: a new chain's number, 0 .. 5, as they were made");
    Bench x = new Bench();
    for (int c = 0; c < 6; c++) x.due(Bench.text("chain", c + 1, 6 - c, 1000 - c), c);
    x.due("chain(1, 1, 1)", FULL).due("count(0)", 6);
    for (int c = 0; c < 6; c++) {
      x.due(Bench.text("told", c, 0), c + 1).due(Bench.text("told", c, 1), 6 - c).due(Bench.text("told", c, 2), 1000 - c);
    }
    Check.sentence("2: FULL no more when a chain has gone");
    x.due("remove()", 5).due("chain(8, 6, 1)", 5).due("told(5, 0)", 8).due("told(5, 2)", 1).due("chain(1, 1, 1)", FULL);
  }

  private static void leastAndGreatestChain() {
    Check.sentence("7: n, m, T of the least chain and of the greatest");
    Bench x = new Bench();
    x.due("chain(1, 1, 1)", 0).due("chain(8, 6, 1000)", 1);
    x.due("told(0, 0)", 1).due("told(0, 1)", 1).due("told(0, 2)", 1);
    x.due("told(1, 0)", 8).due("told(1, 1)", 6).due("told(1, 2)", 1000);
  }

  /** Each of the 120 weights of a chain with 8 states and 6 signs, by a number of its own, 1 .. 120: what it was and becomes. */
  private static void eachWeight(Bench x, int c, IntUnaryOperator was, IntUnaryOperator becomes) {
    int number = 1;
    for (int s = 0; s < 8; s++, number++) x.due(Bench.text("begin", c, s, becomes.applyAsInt(number)), was.applyAsInt(number));
    for (int s = 0; s < 8; s++) {
      for (int t = 0; t < 8; t++, number++) x.due(Bench.text("go", c, s, t, becomes.applyAsInt(number)), was.applyAsInt(number));
    }
    for (int s = 0; s < 8; s++) {
      for (int k = 0; k < 6; k++, number++) x.due(Bench.text("show", c, s, k, becomes.applyAsInt(number)), was.applyAsInt(number));
    }
  }

  private static void weightsAtFirst() {
    Check.sentence("WEIGHTS are all 0 at first");
    Bench x = new Bench();
    x.ask("chain(8, 6, 1000)");
    eachWeight(x, 0, number -> 0, number -> 1000);
    Check.sentence("WEIGHTS are all 0 at first, also where a chain has gone");
    x.due("remove()", 0).due("chain(8, 6, 1000)", 0).due("sound(0)", 0);
    eachWeight(x, 0, number -> 0, number -> 0);
  }

  private static void eachWeightForItself() {
    Check.sentence("3, 4, 5: the weight becomes w, and no other does: what it was");
    Bench x = new Bench();
    x.ask("chain(8, 6, 1000)");
    eachWeight(x, 0, number -> 0, number -> number);
    eachWeight(x, 0, number -> number, number -> 1000 - number);
    eachWeight(x, 0, number -> 1000 - number, number -> 0);
    Check.sentence("3, 4, 5: the weights of two chains are apart");
    Bench y = new Bench();
    y.ask("chain(8, 6, 1000)");
    y.ask("chain(8, 6, 1000)");
    eachWeight(y, 0, number -> 0, number -> number);
    eachWeight(y, 1, number -> 0, number -> 0);
    eachWeight(y, 0, number -> number, number -> 0);
  }

  private static void leastAndGreatestWeight() {
    Check.sentence("WEIGHTS are 0 .. T: both are kept");
    for (int total : new int[] {1, 1000}) {
      Bench x = new Bench();
      x.ask(Bench.text("chain", 8, 6, total));
      for (int[] way : new int[][] {{total, 0}, {0, total}, {total, 0}}) {
        x.due(Bench.text("begin", 0, 7, way[0]), way[1]);
        x.due(Bench.text("go", 0, 7, 7, way[0]), way[1]);
        x.due(Bench.text("show", 0, 7, 5, way[0]), way[1]);
      }
    }
  }

  private static void sound() {
    Check.sentence("6: 0 while all weights are 0");
    Bench x = new Bench();
    x.due("chain(1, 1, 1)", 0).due("sound(0)", 0);
    Check.sentence("6: 1 just when BEGINS, GOES and SHOWS are all T");
    x.due("begin(0, 0, 1)", 0).due("sound(0)", 0).due("go(0, 0, 0, 1)", 0).due("sound(0)", 0);
    x.due("show(0, 0, 0, 1)", 0).due("sound(0)", 1);
    soundByOneMoreOrLess();
    soundOfEachState();
  }

  private static void soundByOneMoreOrLess() {
    Bench x = new Bench();
    x.ring(999, 6, 0, 1, 2, 3, 4, 5, 0, 1);
    x.due("sound(0)", 1);
    Check.sentence("6: the BEGINS together are T, neither T - 1 nor T + 1");
    unsoundBy(x, "begin(0, 0, #)", 999, 998);
    unsoundBy(x, "begin(0, 7, #)", 0, 1);
    for (int s = 0; s < 8; s++) {
      Check.sentence("6: of each state the GOES together are T, neither T - 1 nor T + 1");
      unsoundBy(x, "go(0, " + s + ", " + (s + 1) % 8 + ", #)", 999, 998);
      unsoundBy(x, "go(0, " + s + ", " + (s + 7) % 8 + ", #)", 0, 1);
      Check.sentence("6: of each state the SHOWS together are T, neither T - 1 nor T + 1");
      unsoundBy(x, "show(0, " + s + ", " + s % 6 + ", #)", 999, 998);
      unsoundBy(x, "show(0, " + s + ", " + (s + 5) % 6 + ", #)", 0, 1);
    }
    Check.sentence("6: all weights as great as can be");
    Bench y = new Bench();
    y.make(1000, times(8, 1000), grid(8, 8, 1000), grid(8, 6, 1000));
    y.due("sound(0)", 0);
  }

  private static int[][] grid(int lines, int width, int value) {
    int[][] made = new int[lines][];
    for (int i = 0; i < lines; i++) made[i] = times(width, value);
    return made;
  }

  private static void unsoundBy(Bench x, String template, int right, int wrong) {
    x.due(template.replace("#", "" + wrong), right).due("sound(0)", 0);
    x.due(template.replace("#", "" + right), wrong).due("sound(0)", 1);
  }

  private static void soundOfEachState() {
    Check.sentence("6: of EACH state: one too little is not made good by another");
    Bench x = new Bench();
    x.make(10, new int[] {6, 4}, new int[][] {{7, 3}, {4, 6}}, new int[][] {{5, 4, 1}, {1, 3, 6}});
    x.due("go(0, 0, 0, 6)", 7).due("go(0, 1, 0, 5)", 4).due("sound(0)", 0);
    x.due("go(0, 0, 0, 7)", 6).due("go(0, 1, 0, 4)", 5).due("sound(0)", 1);
    x.due("show(0, 0, 2, 0)", 1).due("show(0, 1, 0, 2)", 1).due("sound(0)", 0);
    x.due("show(0, 0, 2, 1)", 0).due("show(0, 1, 0, 1)", 2).due("sound(0)", 1);
    Check.sentence("6: moved within one state it stays SOUND");
    x.due("begin(0, 0, 0)", 6).due("begin(0, 1, 10)", 4).due("sound(0)", 1);
  }

  private static void remove() {
    Check.sentence("22: how many are left, and NONE with no chain left, each time");
    Bench x = new Bench();
    for (int c = 0; c < 6; c++) x.single(c + 1);
    for (int c = 5; c >= 0; c--) {
      x.due(Bench.text("told", c, 2), c + 1).due("remove()", c).due("count(0)", c);
      x.due(Bench.text("told", c, 2), NONE).due(Bench.text("sound", c), NONE);
    }
    x.due("remove()", NONE).due("remove()", NONE).due("count(0)", 0);
    Check.sentence("22: the chain that was made last goes, the others stay");
    x.single(7);
    x.single(8);
    x.due("remove()", 1).due("told(0, 2)", 7).due("sound(0)", 1).due("chain(2, 2, 9)", 1).due("sound(1)", 0);
  }

  // ---- THE ROW ----

  private static void rowOfSixty() {
    Check.sentence("8: how many places THE ROW has, up to 60");
    Bench x = new Bench();
    for (int i = 0; i < 60; i++) x.due(Bench.text("sign", i % 7 - 1), i + 1);
    Check.sentence("8: FULL");
    x.due("sign(0)", FULL).due("sign(-1)", FULL).due("sign(5)", FULL).due("count(1)", 60);
    Check.sentence("10: the sign at each of 60 places, -1 if it is MISSED; -2 beside them");
    for (int i = 0; i < 60; i++) x.due(Bench.text("at", i), i % 7 - 1);
    x.due("at(60)", NO_PLACE).due("at(-1)", NO_PLACE);
    Check.sentence("8: FULL no more with 59 places");
    x.due("cut(60)", 60).due("sign(1)", FULL).due("cut(59)", 59).due("sign(4)", 60).due("at(59)", 4).due("sign(1)", FULL);
  }

  private static void signsWithoutChains() {
    Check.sentence("8: a sign (0 .. 5) or a MISSED place, whatever chains there are");
    Bench x = new Bench();
    x.due("sign(5)", 1).due("sign(-1)", 2).due("sign(0)", 3);
    x.single(1);
    x.due("sign(5)", 4).rowIs(5, MISSED, 0, 5);
  }

  private static void cut() {
    Check.sentence("9: an empty row keeps its first 0 places, and has not 1");
    Bench x = new Bench();
    x.due("cut(0)", 0).due("cut(1)", NONE).due("cut(-1)", NONE).rowIs();
    Check.sentence("9: it keeps all of them");
    x.row(3, MISSED, 4).due("cut(3)", 3).rowIs(3, MISSED, 4);
    Check.sentence("9: it keeps the first n");
    x.due("cut(2)", 2).rowIs(3, MISSED);
    Check.sentence("9: it has not so many any more");
    x.due("cut(3)", NONE).rowIs(3, MISSED);
    Check.sentence("9: what was cut off does not come back");
    x.due("sign(0)", 3).rowIs(3, MISSED, 0);
    x.due("cut(1)", 1).rowIs(3);
    x.due("cut(0)", 0).rowIs();
    Check.sentence("9: of sixty places");
    x.rowOf(60, 2).due("cut(61)", NONE).due("cut(60)", 60).due("cut(1)", 1).rowIs(2);
  }

  private static void count() {
    Check.sentence("21: how many chains, 0 .. 6");
    Bench x = new Bench();
    x.due("count(0)", 0);
    for (int c = 1; c <= 6; c++) {
      x.single(1);
      x.due("count(0)", c);
    }
    Check.sentence("21: how many places, 0 .. 60");
    x.due("count(1)", 0).due("sign(-1)", 1).due("count(1)", 1).rowOf(60, 0).due("count(1)", 60);
    x.due("sign(0)", FULL).due("count(1)", 60).due("chain(1, 1, 1)", FULL).due("count(0)", 6);
  }

  private static void fits() {
    for (int m = 1; m <= 6; m++) {
      Check.sentence("THE ROW FITS a chain if all its signs are less than m: m - 1 does, m does not");
      Bench x = new Bench();
      int[] shown = new int[m];
      for (int k = 0; k < m; k++) shown[k] = k;
      x.ring(2, m, shown);
      x.row(m - 1).due("sum(0)", 1).due("odds(0, 0, 0, 0)", 1).due("compare(0, 0)", 0);
      if (m < 6) x.row(m).due("sum(0)", UNFIT).due("odds(0, 0, 0, 0)", UNFIT).due("best(0, 0)", UNFIT).due("compare(0, 0)", NO_PLACE);
      x.row(5).due("sum(0)", m == 6 ? 1 : UNFIT);
      Check.sentence("a MISSED place FITS every chain");
      x.row(MISSED).due("sum(0)", 1).due("best(0, 0)", 1);
    }
    Check.sentence("ALL its signs: it does not FIT by one sign, at whatever place");
    for (int place : new int[] {0, 30, 59}) {
      Bench x = new Bench();
      x.single(1, 1);
      int[] row = times(60, MISSED);
      row[place] = 2;
      x.row(row).due("sum(0)", UNFIT).due("moment(0, 0)", UNFIT).due("best(0, 0)", UNFIT).due("odds(0, 59, 0, 0)", UNFIT);
      Check.due("cut before it", x.ask(Bench.text("cut", place)), (long) place);
      x.due("sum(0)", place == 0 ? EMPTY : big(4).pow(place).toString().length());
    }
  }

  // ---- THE WHOLE ----

  private static void sumOfShortRows() {
    Check.sentence("11: the CHANCE of a row of one place is BEGIN times SHOW");
    Bench x = new Bench();
    x.make(10, new int[] {6, 4}, new int[][] {{7, 3}, {4, 6}}, new int[][] {{5, 4, 1}, {1, 3, 6}});
    x.row(0).dueWhole("sum(0)", 6 * 5 + 4 * 1);
    x.row(2).dueWhole("sum(0)", 6 * 1 + 4 * 6);
    Check.sentence("11: T where it is MISSED");
    x.row(MISSED).dueWhole("sum(0)", 100);
    x.row(MISSED, 0).dueWhole("sum(0)", (60 * 7 + 40 * 4) * 5 + (60 * 3 + 40 * 6) * 1);
    Check.sentence("11: EMPTY, and THE WHOLE stays");
    x.row().due("sum(0)", EMPTY).due("part(0)", 3320);
  }

  private static void sumOfNought() {
    Check.sentence("11: how many digits it has: 1 for 0");
    Bench x = new Bench();
    x.ring(1000, 2, 0, 1);
    x.row(0).dueWhole("sum(0)", 1_000_000);
    x.row(1).dueWhole("sum(0)", 0);
    x.rowOf(60, 0).dueWhole("sum(0)", 0);
    Check.sentence("12: how many digits it has: 1 for 0");
    for (int how = 0; how <= 2; how += 2) x.dueWhole(Bench.text("odds", 0, 0, 1, how), 0);
    x.dueWhole("odds(0, 0, 0, 1)", 0);
  }

  private static void sumOfTheGreatest() {
    Check.sentence("a whole number out of T to the 2 L, for all rows of MISSED places together");
    for (int total : new int[] {1, 2, 10, 999, 1000}) {
      for (int places : new int[] {1, 2, 59, 60}) {
        Bench x = new Bench();
        x.ring(total, 6, 0, 1, 2, 3, 4, 5, 0, 1);
        x.rowOf(places, MISSED).dueWhole("sum(0)", big(total).pow(2 * places));
      }
    }
    Check.sentence("the sum of those of all rows of states: 8 states, 60 places");
    Bench y = new Bench();
    y.make(1000, times(8, 125), grid(8, 8, 125), grid(8, 2, 500));
    y.rowOf(60, 1).dueWhole("sum(0)", big(500_000).pow(60));
    y.dueWhole("best(0, 19)", big(62_500).pow(60));
  }

  /** 10 to the e, for each e that can be, by places that are worth 1000 times 1, 10, 100 or 1000 (MISSED). */
  private static void digitsOfEachLength() {
    Check.sentence("11: how many digits it has, for each length there can be");
    Bench one = new Bench();
    one.single(1);
    one.row(0).dueWhole("sum(0)", 1);
    Bench ten = new Bench();
    ten.single(1, 9);
    ten.row(0).dueWhole("sum(0)", 10);
    ten.row(1).dueWhole("sum(0)", 90);
    ten.row(MISSED).dueWhole("sum(0)", 100);
    for (int e = 3; e <= 360; e++) {
      Bench x = new Bench();
      x.single(1, 10, 100, 889);
      int[] row = new int[(e + 5) / 6];
      int left = e - 3 * row.length;
      for (int i = 0; i < row.length; i++) {
        int take = Math.min(3, left);
        row[i] = take == 3 ? MISSED : take;
        left -= take;
      }
      x.row(row).dueWhole("sum(0)", BigInteger.TEN.pow(e));
    }
    Check.sentence("11: how many digits it has, just below each third length");
    for (int places = 1; places <= 60; places++) {
      Bench x = new Bench();
      x.single(999, 1);
      int[] row = times(places, MISSED);
      row[places - 1] = 0;
      x.row(row).dueWhole("sum(0)", big(999).multiply(BigInteger.TEN.pow(6 * places - 3)));
      x.rowOf(places, 0).dueWhole("sum(0)", big(999_000).pow(places));
    }
  }

  private static void parts() {
    Check.sentence("20: parts of 18 digits, k 0 .. 25, all 0 above THE WHOLE");
    Bench x = new Bench();
    x.single(999, 1);
    x.rowOf(60, MISSED).due("sum(0)", 361);
    for (int k = 0; k < 26; k++) x.due(Bench.text("part", k), k == 20 ? 1 : 0);
    x.due("part(26)", NONE).due("part(-1)", NONE);
    Check.sentence("20: nothing is left of a greater one before it");
    x.rowOf(60, 0).due("sum(0)", 360).due("part(20)", 0).due("part(25)", 0);
    x.dueWhole("odds(0, 59, 0, 1)", 1);
    Check.sentence("20: the rest by 10^18 away, 10^18 and what is just below it");
    Bench y = new Bench();
    y.single(999, 1);
    y.row(MISSED, MISSED, MISSED).due("sum(0)", 19).due("part(0)", 0).due("part(1)", 1).due("part(2)", 0);
    y.row(MISSED, MISSED, 0).due("sum(0)", 18).due("part(0)", 999_000_000_000_000_000L).due("part(1)", 0);
    y.row(0, 0, 0, 0).due("sum(0)", 24);
    y.due("part(0)", 5_996_001_000_000_000_000L % 1_000_000_000_000_000_000L).due("part(1)", 996005);
  }

  private static void oddsAtTheEnds() {
    Bench x = new Bench();
    x.make(10, new int[] {6, 4}, new int[][] {{7, 3}, {4, 6}}, new int[][] {{5, 4, 1}, {1, 3, 6}});
    x.row(0, MISSED, 2);
    Check.sentence("12: AHEAD of place 0 is BEGIN times SHOW");
    x.dueWhole("odds(0, 0, 0, 0)", 30);
    x.dueWhole("odds(0, 0, 1, 0)", 4);
    Check.sentence("12: BEHIND is 1 at the last place");
    x.dueWhole("odds(0, 2, 0, 1)", 1);
    x.dueWhole("odds(0, 2, 1, 1)", 1);
    Check.sentence("12: the product of both is AHEAD at the last place");
    x.dueWhole("odds(0, 2, 0, 0)", (2260 * 7 + 1140 * 4) * 1);
    x.dueWhole("odds(0, 2, 0, 2)", (2260 * 7 + 1140 * 4) * 1);
    x.dueWhole("odds(0, 2, 1, 2)", (2260 * 3 + 1140 * 6) * 6);
    Check.sentence("12: T where it is MISSED, ahead and behind");
    x.dueWhole("odds(0, 1, 0, 0)", (30 * 7 + 4 * 4) * 10);
    x.dueWhole("odds(0, 1, 0, 1)", 7 * 1 + 3 * 6);
    x.dueWhole("odds(0, 0, 1, 1)", 10 * (4 * (7 * 1 + 3 * 6) + 6 * (4 * 1 + 6 * 6)));
    Check.sentence("12: one place is the first and the last");
    x.row(2);
    x.dueWhole("odds(0, 0, 1, 0)", 24);
    x.dueWhole("odds(0, 0, 1, 1)", 1);
    x.dueWhole("odds(0, 0, 1, 2)", 24);
  }

  private static void oddsOfSixty() {
    Check.sentence("12: places 0 and 59 of 60, state 7 of 8");
    Bench x = new Bench();
    x.make(1000, times(8, 125), grid(8, 8, 125), grid(8, 2, 500));
    x.rowOf(60, 1);
    BigInteger step = big(125 * 500);
    BigInteger all = big(500_000);
    x.dueWhole("odds(0, 0, 7, 0)", step);
    x.dueWhole("odds(0, 0, 7, 1)", all.pow(59));
    x.dueWhole("odds(0, 59, 7, 0)", step.multiply(all.pow(59)));
    x.dueWhole("odds(0, 59, 7, 1)", 1);
    x.dueWhole("odds(0, 30, 7, 2)", step.multiply(all.pow(59)));
    Check.sentence("12: the greatest product there can be");
    Bench y = new Bench();
    y.single(1000);
    y.rowOf(60, 0);
    for (int i : new int[] {0, 1, 2, 29, 30, 58, 59}) y.dueWhole(Bench.text("odds", 0, i, 0, 2), BigInteger.TEN.pow(360));
  }

  // ---- moment, best, state ----

  private static void moment() {
    Check.sentence("13: of several the least");
    Bench x = new Bench();
    x.make(8, times(8, 1), grid(8, 8, 1), grid(8, 1, 8));
    x.rowOf(60, MISSED).due("moment(0, 0)", 0).due("moment(0, 30)", 0).due("moment(0, 59)", 0);
    Check.sentence("13: of several the least, where the first states are not among them");
    x.ask("begin(0, 0, 0)");
    x.ask("begin(0, 1, 0)");
    x.ask("begin(0, 3, 2)");
    x.ask("begin(0, 7, 2)");
    x.due("sound(0)", 1).due("moment(0, 0)", 3).due("moment(0, 1)", 0);
    Check.sentence("13: the greatest, were it the last state");
    x.ask("begin(0, 3, 1)");
    x.ask("begin(0, 7, 3)");
    x.due("sound(0)", 1).due("moment(0, 0)", 7).row(0).due("moment(0, 0)", 7);
    Check.sentence("13: a state whose product is 0 is not the one");
    Bench y = new Bench();
    int ring = y.ring(5, 2, 0, 0, 1);
    y.row(0, 0, 1, MISSED);
    for (int i = 0; i < 4; i++) y.due(Bench.text("moment", ring, i), i % 3);
    Check.sentence("13: by the product, not by AHEAD or BEHIND alone");
    int both = y.make(10, new int[] {6, 4}, new int[][] {{9, 1}, {0, 10}}, new int[][] {{10, 0}, {5, 5}});
    y.row(0, 1).due(Bench.text("moment", both, 0), 1).row(0).due(Bench.text("moment", both, 0), 0);
  }

  /** Two states that are never left: of 60 places one chance is b times 999^60, the other (1000 - b) times 1000^60. */
  private static void nearlyLike() {
    for (int b = 513; b <= 517; b++) {
      boolean first = big(b).multiply(big(999).pow(60)).compareTo(big(1000 - b).multiply(big(1000).pow(60))) > 0;
      Bench x = new Bench();
      x.make(1000, new int[] {b, 1000 - b}, new int[][] {{1000, 0}, {0, 1000}}, new int[][] {{999, 1}, {1000, 0}});
      x.rowOf(60, 0);
      Check.sentence("13: the greatest, by however little");
      x.due("moment(0, 0)", first ? 0 : 1).due("moment(0, 59)", first ? 0 : 1);
      Check.sentence("14: the greatest CHANCE first, by however little");
      x.ask("best(0, 0)");
      x.due("state(0)", first ? 0 : 1).due("state(59)", first ? 0 : 1);
      x.ask("best(0, 1)");
      x.due("state(0)", first ? 1 : 0).due("best(0, 2)", 0);
    }
  }

  /** Five states, each of which goes to the others and not to itself: of two places there are 20 rows of states. */
  private static Bench twentyRows(int[]... others) {
    int[][] goes = {{0, 5, 5, 5, 5}, {5, 0, 5, 5, 5}, {5, 5, 0, 5, 5}, {5, 5, 5, 0, 5}, {5, 5, 5, 5, 0}};
    for (int i = 0; i < others.length; i++) goes[i] = others[i];
    Bench x = new Bench();
    x.make(20, times(5, 4), goes, grid(5, 1, 20));
    return x.row(MISSED, 0);
  }

  private static void howManyBestRows() {
    Check.sentence("14: the 20th of 20 rows");
    Bench x = twentyRows();
    x.dueWhole("best(0, 19)", 4 * 20 * 5 * 20);
    x.statesAre(4, 3);
    x.due("best(0, 20)", NONE).statesAre(4, 3);
    x.due("best(0, 0)", 4).statesAre(0, 1);
    x.due("best(0, 18)", 4).statesAre(4, 2);
    Check.sentence("14: 0, and nothing changes: the 20th of 19 rows");
    Bench y = twentyRows(new int[] {0, 10, 5, 5, 0});
    y.due("best(0, 18)", 4).due("best(0, 19)", 0);
    y.statesAre(4, 3);
    y.due("part(0)", 8000).due("best(0, 20)", NONE);
    y.dueWhole("best(0, 0)", 16_000);
    y.statesAre(0, 1);
    Check.sentence("14: the 20th of 21 rows; there is no k 20");
    Bench z = twentyRows(new int[] {4, 4, 4, 4, 4});
    z.dueWhole("best(0, 19)", 4 * 20 * 4 * 20);
    z.statesAre(0, 3);
    z.due("best(0, 20)", NONE).statesAre(0, 3);
  }

  private static void noBestRow() {
    Check.sentence("14: those with a CHANCE above 0: none, and nothing changes");
    Bench x = new Bench();
    x.ring(3, 2, 0, 0);
    x.row(1);
    for (int k = 0; k < 20; k++) x.due(Bench.text("best", 0, k), 0);
    x.statesAre();
    x.due("part(0)", 0).row(0, 1, 0).due("best(0, 0)", 0).statesAre();
    Check.sentence("14: those with a CHANCE above 0: one, and no second");
    x.row(0, MISSED);
    x.dueWhole("best(0, 0)", 81);
    x.statesAre(0, 1);
    x.due("best(0, 1)", 0).due("best(0, 19)", 0).statesAre(0, 1);
    Check.sentence("14: one state has one row");
    Bench y = new Bench();
    y.single(1);
    y.rowOf(60, 0).dueWhole("best(0, 0)", 1);
    y.statesAre(times(60, 0));
    y.due("best(0, 1)", 0).due("state(59)", 0);
  }

  private static void orderOfBestRows() {
    Check.sentence("14: the greatest CHANCE first; of like ones the one whose states come first");
    Bench x = new Bench();
    x.make(10, new int[] {2, 3, 5}, new int[][] {{1, 6, 3}, {4, 0, 6}, {0, 0, 10}}, grid(3, 1, 10));
    int[][] rows = {{2, 2}, {1, 2}, {0, 1}, {1, 0}, {0, 2}, {0, 0}};
    int[] chances = {5000, 1800, 1200, 1200, 600, 200};
    x.row(0, MISSED);
    for (int k = 0; k < 6; k++) {
      x.dueWhole(Bench.text("best", 0, k), chances[k]);
      x.statesAre(rows[k]);
    }
    x.due("best(0, 6)", 0).statesAre(0, 0);
    Check.sentence("14: of like ones the first that differs being less, at the first place and at the last of 60");
    Bench y = new Bench();
    y.make(8, times(8, 1), grid(8, 8, 1), grid(8, 1, 8));
    y.row(0);
    for (int k = 0; k < 8; k++) y.due(Bench.text("best", 0, k), 1).due("state(0)", k);
    y.due("best(0, 8)", 0).due("state(0)", 7).due("part(0)", 8);
    y.rowOf(60, 0).due("best(0, 19)", big(8).pow(60).toString().length());
    y.due("state(0)", 0).due("state(57)", 0).due("state(58)", 2).due("state(59)", 3);
  }

  private static void states() {
    Check.sentence("15: NONE: best() has not found any");
    Bench x = new Bench();
    x.make(10, new int[] {6, 4}, new int[][] {{7, 3}, {4, 6}}, new int[][] {{5, 4, 1}, {1, 3, 6}});
    x.row(0, 1, 2).due("state(0)", NONE);
    Check.sentence("15: the row of states that best() found last, at each of its places");
    x.due("best(0, 0)", 5).statesAre(0, 0, 1);
    x.due("best(0, 3)", 4).statesAre(1, 1, 1);
    Check.sentence("15: a shorter one leaves nothing of a longer one");
    x.row(2).due("best(0, 0)", 2).statesAre(1);
    Check.sentence("15: it is still that one when best() was refused or found none");
    x.due("best(0, 2)", 0).due("best(0, 20)", NONE).due("best(1, 0)", NONE).statesAre(1);
    x.row(5).due("best(0, 0)", UNFIT).row().due("best(0, 0)", EMPTY).due("begin(0, 0, 0)", 6).row(0).due("best(0, 0)", ROUGH).statesAre(1);
    Check.sentence("15: it is still that one when THE ROW or the chain is another");
    x.due("remove()", 0).row().statesAre(1);
    Check.sentence("15: places 0 and 59 of 60");
    x.ring(4, 1, 0, 0, 0, 0, 0, 0, 0);
    x.rowOf(60, MISSED).due("best(0, 0)", big(16).pow(60).toString().length());
    x.due("state(0)", 0).due("state(59)", 59 % 7).due("state(60)", NONE).due("state(-1)", NONE);
  }

  // ---- two chains ----

  private static void compare() {
    Check.sentence("16: out of its own T: like chances of unlike TOTALS");
    Bench x = new Bench();
    int least = x.single(1);
    int half = x.single(1, 1);
    int halfOfMost = x.single(500, 500);
    int third = x.single(1, 2);
    int thirdOfMuch = x.single(333, 666);
    int sure = x.ring(1000, 2, 0, 0, 0);
    x.rowOf(60, 0);
    x.due(Bench.text("compare", half, halfOfMost), 0).due(Bench.text("compare", halfOfMost, half), 0);
    x.due(Bench.text("compare", third, thirdOfMuch), 0).due(Bench.text("compare", thirdOfMuch, third), 0);
    x.due(Bench.text("compare", least, sure), 0).due(Bench.text("compare", sure, least), 0);
    Check.sentence("16: less, greater");
    x.due(Bench.text("compare", third, half), -1).due(Bench.text("compare", half, third), 1);
    x.due(Bench.text("compare", thirdOfMuch, sure), -1).due(Bench.text("compare", sure, thirdOfMuch), 1);
    x.due(Bench.text("compare", third, halfOfMost), -1).due(Bench.text("compare", halfOfMost, thirdOfMuch), 1);
    Check.sentence("16: a CHANCE of 0 is less than any other, and the same as another 0");
    x.row(1).due(Bench.text("compare", sure, third), -1).due(Bench.text("compare", third, sure), 1);
    x.due(Bench.text("compare", sure, sure), 0);
    Check.sentence("16: a chain and itself");
    for (int c = 0; c < 6; c++) x.row(0).due(Bench.text("compare", c, c), 0);
    Check.sentence("16: -2 (not EMPTY) is a refusal");
    x.row().due(Bench.text("compare", half, third), -2).row(1).due(Bench.text("compare", least, half), -2);
    x.due(Bench.text("compare", half, least), -2).due("compare(6, 0)", -2).due("compare(0, -1)", -2);
  }

  private static void compareByLittle() {
    Check.sentence("16: greater by however little, of 60 places and great TOTALS");
    for (int[] pair : new int[][] {{999, 1, 998, 1}, {500, 500, 499, 500}, {1, 999, 1, 998}, {500, 499, 499, 498}}) {
      BigInteger left = big(pair[0]).multiply(big(pair[2] + pair[3])).pow(60);
      BigInteger right = big(pair[2]).multiply(big(pair[0] + pair[1])).pow(60);
      Bench x = new Bench();
      x.single(pair[0], pair[1]);
      x.single(pair[2], pair[3]);
      x.rowOf(60, 0).due("compare(0, 1)", left.compareTo(right)).due("compare(1, 0)", right.compareTo(left));
    }
  }

  /** The two are told apart by this row, whichever comes first; it is left as THE ROW, and its chances are unlike. */
  private static void dueApart(Bench x, int a, int b, int... row) {
    for (int[] pair : new int[][] {{a, b}, {b, a}}) {
      x.due(Bench.text("same", pair[0], pair[1]), 0);
      x.due(Bench.text("apart", pair[0], pair[1]), row.length).rowIs(row);
      Check.due("unlike chances", x.ask(Bench.text("compare", pair[0], pair[1])) != 0, true);
    }
  }

  private static void dueSame(Bench x, int a, int b) {
    for (int[] pair : new int[][] {{a, b}, {b, a}}) {
      x.row(1, MISSED).due(Bench.text("same", pair[0], pair[1]), 1).rowIs(1, MISSED);
      x.due(Bench.text("apart", pair[0], pair[1]), 0).rowIs();
      x.due(Bench.text("sum", pair[0]), EMPTY).due(Bench.text("apart", pair[0], pair[1]), 0);
    }
  }

  private static void sameChains() {
    Check.sentence("17 same, 18 apart: a chain and itself; 0, and THE ROW becomes empty");
    Bench x = new Bench();
    int one = x.single(3, 4);
    dueSame(x, one, one);
    Check.sentence("17 same, 18 apart: one state and eight that are all like it");
    int[][] shows = new int[8][];
    Arrays.fill(shows, new int[] {3, 4});
    int eight = x.make(7, new int[] {0, 1, 2, 0, 4, 0, 0, 0}, grid(8, 8, 0), shows);
    for (int s = 0; s < 8; s++) for (int t = 0; t < 7; t++) x.ask(Bench.text("go", eight, s, (s + t) % 8, 1));
    dueSame(x, one, eight);
    dueSame(x, eight, eight);
    Check.sentence("17 same, 18 apart: a state that is never reached does not tell");
    Bench y = new Bench();
    y.ring(3, 2, 0, 1);
    y.make(3, new int[] {3, 0, 0}, new int[][] {{0, 3, 0}, {3, 0, 0}, {1, 1, 1}}, new int[][] {{3, 0}, {0, 3}, {1, 2}});
    dueSame(y, 0, 1);
    Check.sentence("17 same, 18 apart: rings whose rows of signs are alike");
    y.ring(3, 2, 0, 1, 0, 1, 0, 1, 0, 1);
    dueSame(y, 0, 2);
    dueSame(y, 1, 2);
    Check.sentence("17 same, 18 apart: one sign only, whatever the states do");
    Bench z = new Bench();
    z.single(1000);
    z.make(1000, new int[] {1, 999}, new int[][] {{998, 2}, {7, 993}}, grid(2, 1, 1000));
    z.row();
    z.due("same(0, 1)", 1).rowOf(60, 0).due("apart(1, 0)", 0).rowIs();
  }

  private static void apartByOneSign() {
    Check.sentence("18: of several the one whose signs come first");
    Bench x = new Bench();
    x.single(4, 3, 3);
    x.single(3, 3, 4);
    dueApart(x, 0, 1, 0);
    Check.sentence("18: the shortest one, though a longer one's signs come first");
    x.single(4, 2, 4);
    dueApart(x, 0, 2, 1);
    Check.sentence("18: the greatest sign that can be the first to tell");
    Bench y = new Bench();
    y.single(100, 100, 100, 100, 300, 300);
    y.single(100, 100, 100, 100, 299, 301);
    dueApart(y, 0, 1, 4);
    Check.sentence("18: T 1");
    Bench z = new Bench();
    z.single(1, 0);
    z.single(0, 1);
    dueApart(z, 0, 1, 0);
  }

  private static void apartByTwoSigns() {
    // States 0 and 1 show their own sign and go on to 2 and 3: what 3 shows is told behind sign 1 alone.
    int[][] goes = {{0, 0, 10, 0}, {0, 0, 0, 10}, {0, 0, 10, 0}, {0, 0, 0, 10}};
    int[] begins = {5, 5, 0, 0};
    Bench x = new Bench();
    x.make(10, begins, goes, new int[][] {{10, 0, 0}, {0, 10, 0}, {2, 3, 5}, {5, 3, 2}});
    x.make(10, begins, goes, new int[][] {{10, 0, 0}, {0, 10, 0}, {2, 3, 5}, {5, 2, 3}});
    x.make(10, begins, goes, new int[][] {{10, 0, 0}, {0, 10, 0}, {2, 4, 4}, {5, 3, 2}});
    Check.sentence("18: of several with two signs the one whose signs come first");
    dueApart(x, 0, 1, 1, 1);
    dueApart(x, 0, 2, 0, 1);
    dueApart(x, 1, 2, 0, 1);
  }

  private static void apartOfEachLength() {
    for (int n = 1; n <= 8; n++) {
      Check.sentence("18: n signs with n states and one: the last that can tell");
      Bench x = new Bench();
      x.single(1000, 0);
      int[] shown = new int[n];
      shown[n - 1] = 1;
      x.ring(1000, 2, shown);
      dueApart(x, 0, 1, times(n, 0));
    }
    for (int n = 2; n <= 8; n++) {
      Check.sentence("18: 2 n - 1 signs with n states each: the last that can tell");
      Bench x = new Bench();
      int[] shown = new int[n];
      shown[n - 1] = 1;
      x.ring(1000, 2, shown);
      x.ring(1000, 2, shown);
      x.due("same(0, 1)", 1);
      x.ask(Bench.text("go", 1, n - 1, 0, 0));
      x.ask(Bench.text("go", 1, n - 1, 1, 1000));
      int[] row = new int[2 * n - 1];
      row[n - 1] = 1;
      dueApart(x, 0, 1, row);
    }
  }

  private static void apartWhereAllCanBeShown() {
    int[][] kinds = {{500, 500}, {100, 100, 100, 100, 300, 300}};
    int[][] others = {{501, 499}, {100, 100, 100, 100, 299, 301}};
    for (int kind = 0; kind < 2; kind++) {
      for (int n = 2; n <= 8; n++) {
        Check.sentence("18: 2 n - 1 signs, where each row of signs can be shown");
        Bench x = new Bench();
        Bench y = new Bench();
        int[][] shows = new int[n][];
        Arrays.fill(shows, kinds[kind]);
        shows[n - 1] = others[kind];
        x.make(1000, ringBegins(n), ringGoes(n, 0), shows);
        x.make(1000, ringBegins(n), ringGoes(n, 1), shows);
        int[] row = new int[2 * n - 1];
        row[2 * n - 2] = 4 * kind;
        dueApart(x, 0, 1, row);
        Check.sentence("19: no twins, told by n - 1 signs, where each row of signs can be shown");
        y.make(1000, ringBegins(n), ringGoes(n, 0), shows);
        for (int s = 0; s < n; s++) y.due(Bench.text("twins", 0, 0, s), s == 0 ? 1 : 0);
      }
    }
  }

  private static int[] ringBegins(int n) {
    int[] begins = new int[n];
    begins[0] = 1000;
    return begins;
  }

  /** Each state goes to the next one, the last one to this. */
  private static int[][] ringGoes(int n, int first) {
    int[][] goes = new int[n][n];
    for (int s = 0; s < n; s++) goes[s][s < n - 1 ? s + 1 : first] = 1000;
    return goes;
  }

  /** Both bits of a pair of states are gone on with, so that rows of one length differ in two ways; they tell at 7 signs. */
  private static void apartByPairsOfStates() {
    Check.sentence("18: the shortest one, where rows of one length differ in two ways");
    int[][] shows = {{700, 300}, {200, 800}, {700, 300}, {200, 800}, {700, 300}, {200, 800}, {600, 400}, {100, 900}};
    int[] begins = {500, 500, 0, 0, 0, 0, 0, 0};
    Bench x = new Bench();
    x.make(1000, begins, pairGoes(0), shows);
    x.make(1000, begins, pairGoes(2), shows);
    dueApart(x, 0, 1, 0, 0, 0, 0, 0, 0, 0);
    Check.sentence("18: no row of 6 signs tells, and so none that is shorter");
    for (int half = 0; half < 2; half++) {
      Bench y = new Bench();
      y.make(1000, begins, pairGoes(0), shows);
      y.make(1000, begins, pairGoes(2), shows);
      for (int word = 0; word < 32; word++) {
        int[] row = {half, word >> 4 & 1, word >> 3 & 1, word >> 2 & 1, word >> 1 & 1, word & 1};
        y.row(row).due("compare(0, 1)", 0);
      }
    }
  }

  /** From each pair of states to the next one, from the last pair to this. */
  private static int[][] pairGoes(int first) {
    int[][] goes = new int[8][8];
    for (int s = 0; s < 8; s++) {
      int next = s < 6 ? s / 2 * 2 + 2 : first;
      goes[s][next] = s % 2 == 0 ? 900 : 400;
      goes[s][next + 1] = s % 2 == 0 ? 100 : 600;
    }
    return goes;
  }

  /** So many of the greatest primes below 2^31: a program that counts by rests of a prime would use one of these. */
  private static int[] greatPrimes(int n) {
    int[] found = new int[n];
    int candidate = Integer.MAX_VALUE;
    for (int i = 0; i < n; candidate--) if (big(candidate).isProbablePrime(50)) found[i++] = candidate;
    return found;
  }

  private static void apartByAGreatPrime() {
    int[][] words = {{}, {1}, {1, 0}, {0, 1, 1}, {1, 0, 1, 0}, {0, 0, 1, 0, 1}};
    for (int prime : greatPrimes(12)) {
      for (int[] word : words) apartByAGreatPrime(prime, word);
    }
  }

  /** Behind these signs, the chances of 0, 0 differ by the prime's multiple, and those of other signs by other numbers. */
  private static void apartByAGreatPrime(int prime, int[] word) {
    Check.sentence("18: the shortest one, though " + prime + " divides the difference of its chances");
    int[][] ones = {{4, 294, 702}, {484, 0, 516}, {0, 0, 1000}};
    int less = 500_000 * 4294 + 484_000 - prime;
    int[][] others = {{0, 0, 1000}, {0, less, 1000 - less}, {0, 0, 1000}};
    Bench x = new Bench();
    makeBehind(x, word, ones);
    makeBehind(x, word, others);
    int[] row = Arrays.copyOf(word, word.length + 2);
    dueApart(x, 0, 1, row);
    x.ask("sum(0)");
    BigInteger one = x.whole();
    x.ask("sum(1)");
    Check.due("the difference", one.subtract(x.whole()), big(prime).multiply(BigInteger.TEN.pow(6 * word.length)));
  }

  /** States that show these signs for sure, one behind the other, and behind them three that go on so. */
  private static void makeBehind(Bench x, int[] word, int[][] lastGoes) {
    int n = word.length + 3;
    int[] start = {500, 1, 499};
    int[][] lastShows = {{1000, 0}, {1, 999}, {0, 1000}};
    int[] begins = new int[n];
    int[][] goes = new int[n][n];
    int[][] shows = new int[n][2];
    if (word.length > 0) begins[0] = 1000;
    for (int k = 0; k < word.length; k++) {
      shows[k][word[k]] = 1000;
      if (k < word.length - 1) goes[k][k + 1] = 1000;
    }
    for (int s = 0; s < 3; s++) {
      int place = word.length + s;
      if (word.length > 0) goes[word.length - 1][place] = start[s];
      else begins[s] = start[s];
      System.arraycopy(lastGoes[s], 0, goes[place], word.length, 3);
      shows[place] = lastShows[s];
    }
    x.make(1000, begins, goes, shows);
  }

  /**
   * States 0 and 1 go on to 2 and 3, these to 4, 5 and 6, and these to 7, which alone shows its signs with other chances
   * in the second chain. The weights were searched for, so that the two greatest primes below 2^31 divide the difference
   * of the chances of 0, 0, 0, 0: who counts by these two alone finds 0, 0, 1, 0.
   */
  private static void apartByTwoGreatPrimes() {
    Check.sentence("18: the shortest one, though two primes divide the difference of its chances");
    int[] begins = {509, 491, 0, 0, 0, 0, 0, 0};
    int[][] goes = {{0, 0, 598, 402, 0, 0, 0, 0}, {0, 0, 215, 785, 0, 0, 0, 0}, {0, 0, 0, 0, 198, 182, 620, 0}, {0, 0, 0, 0, 677, 174, 149, 0},
        {91, 0, 0, 0, 0, 0, 0, 909}, {640, 0, 0, 0, 0, 0, 0, 360}, {21, 0, 0, 0, 0, 0, 0, 979}, {1000, 0, 0, 0, 0, 0, 0, 0}};
    int[][] shows = {{797, 203}, {813, 187}, {667, 333}, {980, 20}, {918, 82}, {778, 222}, {1000, 0}, {501, 499}};
    Bench x = new Bench();
    x.make(1000, begins, goes, shows);
    shows[7] = new int[] {500, 500};
    x.make(1000, begins, goes, shows);
    dueApart(x, 0, 1, 0, 0, 0, 0);
    x.ask("sum(0)");
    BigInteger one = x.whole();
    x.ask("sum(1)");
    int[] primes = greatPrimes(2);
    Check.due("the difference", one.subtract(x.whole()), big(116).multiply(big(primes[0])).multiply(big(primes[1])));
  }

  /** What the comment on the class's search for such rows says of the numbers it counts by. */
  private static void primesArePrimes() throws ReflectiveOperationException {
    Check.sentence("17 same, 18 apart, 19 twins: exact, by primes enough");
    Field field = HiddenSteps.class.getDeclaredField("PRIMES");
    field.setAccessible(true);
    int[] primes = (int[]) field.get(null);
    BigInteger product = BigInteger.ONE;
    for (int i = 0; i < primes.length; i++) {
      Check.due(primes[i] + " is a prime", big(primes[i]).isProbablePrime(100), true);
      Check.due(primes[i] + " is another one", product.mod(big(primes[i])).signum() != 0, true);
      product = product.multiply(big(primes[i]));
      // So many primes are asked for rows of (3 i + 3) / 2 signs: they cannot all divide a difference of their chances.
      int signs = (3 * i + 3) / 2;
      Check.due(i + 1 + " primes are enough", product.compareTo(BigInteger.TEN.pow(6 * signs)) > 0, true);
    }
    Check.due("enough for 15 signs", product.compareTo(BigInteger.TEN.pow(6 * 15)) > 0, true);
  }

  private static void apartByLittle() {
    Check.sentence("17 same, 18 apart: by a chance of 1 in 1000 at each of seven steps");
    int[][] goes = new int[8][8];
    int[][] shows = grid(8, 2, 0);
    for (int s = 0; s < 8; s++) {
      goes[s][s] = s < 7 ? 999 : 1000;
      if (s < 7) goes[s][s + 1] = 1;
      shows[s][0] = 1000;
    }
    int[] begins = {1000, 0, 0, 0, 0, 0, 0, 0};
    Bench x = new Bench();
    x.make(1000, begins, goes, shows);
    x.make(1000, begins, goes, shows);
    x.due("same(0, 1)", 1);
    x.ask("show(1, 7, 0, 999)");
    x.ask("show(1, 7, 1, 1)");
    dueApart(x, 0, 1, times(8, 0));
    x.rowOf(7, 0).due("compare(0, 1)", 0).rowOf(8, 0).due("compare(0, 1)", 1);
  }

  private static void rowThatApartLeaves() {
    Check.sentence("18: THE ROW becomes that one: nothing is left of sixty places, and it can be gone on with");
    Bench x = new Bench();
    x.single(4, 3, 3);
    x.single(4, 2, 4);
    x.rowOf(60, 5).due("apart(0, 1)", 1).rowIs(1);
    x.due("sign(-1)", 2).rowIs(1, MISSED);
    Check.sentence("18: THE ROW becomes empty");
    x.rowOf(60, 5).due("apart(0, 0)", 0).rowIs();
    x.due("sign(2)", 1).rowIs(2);
    Check.sentence("18: from an empty row");
    x.row().due("apart(0, 1)", 1).rowIs(1);
  }

  private static void twins() {
    Check.sentence("19: a state and itself");
    Bench x = new Bench();
    x.single(1);
    x.due("twins(0, 0, 0)", 1);
    for (int n = 2; n <= 8; n++) {
      Check.sentence("19: no twins, told by n - 1 signs: the last that can tell");
      Bench y = new Bench();
      int[] shown = new int[n];
      shown[n - 1] = 1;
      y.ring(1000, 2, shown);
      y.due("twins(0, 0, 1)", 0).due("twins(0, 1, 0)", 0).due(Bench.text("twins", 0, n - 2, n - 1), 0);
      for (int s = 0; s < n; s++) y.due(Bench.text("twins", 0, s, s), 1);
      Check.sentence("19: all states of a ring with one sign are twins");
      int plain = y.ring(1000, 2, new int[n]);
      for (int s = 0; s < n; s++) y.due(Bench.text("twins", plain, s, n - 1 - s), 1);
    }
    twinsThatNeverBegin();
  }

  private static void twinsThatNeverBegin() {
    Check.sentence("19: things that BEGIN with s for sure, were it never reached");
    Bench x = new Bench();
    int[][] goes = {{10, 0, 0, 0}, {10, 0, 0, 0}, {10, 0, 0, 0}, {0, 10, 0, 0}};
    x.make(10, new int[] {10, 0, 0, 0}, goes, new int[][] {{5, 5}, {4, 6}, {4, 6}, {4, 6}});
    x.due("twins(0, 1, 2)", 1).due("twins(0, 0, 1)", 0);
    Check.sentence("19: shown alike at first, and not behind");
    x.due("twins(0, 1, 3)", 0).due("twins(0, 3, 2)", 0);
    Check.sentence("19: unlike by 1 in 1000");
    Bench y = new Bench();
    y.make(1000, new int[] {1000, 0}, new int[][] {{0, 1000}, {1000, 0}}, new int[][] {{500, 500}, {501, 499}});
    y.due("twins(0, 0, 1)", 0).due("show(0, 1, 0, 500)", 501).due("show(0, 1, 1, 500)", 499).due("twins(0, 0, 1)", 1);
  }

  // ---- the 512 calls ----

  private static void lastCalls() {
    Check.sentence("an object is used for 512 calls: the last ones answer as the first");
    Bench x = new Bench();
    x.make(10, new int[] {6, 4}, new int[][] {{7, 3}, {4, 6}}, new int[][] {{5, 4, 1}, {1, 3, 6}});
    while (x.calls() < 480) {
      x.row(0, 1, 2).due("sum(0)", 5).due("best(0, 7)", 3).due("apart(0, 0)", 0).due("compare(0, 0)", -2).due("twins(0, 0, 1)", 0);
    }
    while (x.calls() < Bench.MOST_CALLS - 12) x.due("count(0)", 1);
    x.row(0, 1, 2).due("sum(0)", 5).due("part(0)", 36280).due("best(0, 7)", 3).due("part(0)", 288).due("state(2)", 0);
    x.due("same(0, 0)", 1).due("chain(1, 1, 1)", 1).due("remove()", 1);
    Check.due("calls", x.calls(), Bench.MOST_CALLS);
  }

  public static void main(String[] args) throws ReflectiveOperationException {
    newObject();
    chainNumbers();
    leastAndGreatestChain();
    weightsAtFirst();
    eachWeightForItself();
    leastAndGreatestWeight();
    sound();
    remove();
    rowOfSixty();
    signsWithoutChains();
    cut();
    count();
    fits();
    sumOfShortRows();
    sumOfNought();
    sumOfTheGreatest();
    digitsOfEachLength();
    parts();
    oddsAtTheEnds();
    oddsOfSixty();
    moment();
    nearlyLike();
    howManyBestRows();
    noBestRow();
    orderOfBestRows();
    states();
    compare();
    compareByLittle();
    sameChains();
    apartByOneSign();
    apartByTwoSigns();
    apartOfEachLength();
    apartWhereAllCanBeShown();
    apartByPairsOfStates();
    apartByAGreatPrime();
    apartByTwoGreatPrimes();
    primesArePrimes();
    apartByLittle();
    rowThatApartLeaves();
    twins();
    lastCalls();
    Check.end("the edges hold");
  }
}
