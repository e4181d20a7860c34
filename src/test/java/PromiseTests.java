/** For each promise of the document: ordinary inputs, the edges that it names, and wrong inputs. */
public final class PromiseTests {
  private static int wrong = 0;

  private static void due(String what, long got, long want) {
    if (got != want) {
      wrong++;
      System.out.println(what + " answered " + got + ", due is " + want);
    }
  }

  // ---- helpers that build chains ----

  private static int make(HiddenSteps x, int total, int[] begins, int[][] goes, int[][] shows) {
    int c = x.chain(begins.length, shows[0].length, total);
    fill(x, c, begins, goes, shows);
    return c;
  }

  private static void fill(HiddenSteps x, int c, int[] begins, int[][] goes, int[][] shows) {
    for (int s = 0; s < begins.length; s++) {
      x.begin(c, s, begins[s]);
      for (int t = 0; t < begins.length; t++) x.go(c, s, t, goes[s][t]);
      for (int k = 0; k < shows[s].length; k++) x.show(c, s, k, shows[s][k]);
    }
  }

  /** Two states, three signs, out of 10. */
  private static int weather(HiddenSteps x) {
    return make(x, 10, new int[] {6, 4}, new int[][] {{7, 3}, {4, 6}}, new int[][] {{5, 4, 1}, {1, 3, 6}});
  }

  /** States 0 .. n - 1 one behind the other, then 0 again; each shows the sign given for it, for sure. */
  private static int ring(HiddenSteps x, int total, int signs, int... shown) {
    int n = shown.length;
    int[] begins = new int[n];
    int[][] goes = new int[n][n];
    int[][] shows = new int[n][signs];
    begins[0] = total;
    for (int s = 0; s < n; s++) {
      goes[s][(s + 1) % n] = total;
      shows[s][shown[s]] = total;
    }
    return make(x, total, begins, goes, shows);
  }

  /** Eight states, each as likely as any other, everywhere. */
  private static int even(HiddenSteps x) {
    int[] begins = new int[8];
    int[][] goes = new int[8][8];
    int[][] shows = new int[8][2];
    for (int s = 0; s < 8; s++) {
      begins[s] = 1;
      for (int t = 0; t < 8; t++) goes[s][t] = 1;
      shows[s][0] = 8;
    }
    return make(x, 8, begins, goes, shows);
  }

  private static void signs(HiddenSteps x, int... row) {
    x.cut(0);
    for (int s : row) x.sign(s);
  }

  private static void rowIs(String what, HiddenSteps x, int... row) {
    due(what + ": places", x.count(1), row.length);
    for (int i = 0; i < row.length; i++) due(what + ": at " + i, x.at(i), row[i]);
    due(what + ": no place behind", x.at(row.length), -2);
  }

  private static void statesAre(String what, HiddenSteps x, int... row) {
    for (int i = 0; i < row.length; i++) due(what + ": state " + i, x.state(i), row[i]);
    due(what + ": no state behind", x.state(row.length), HiddenSteps.NONE);
  }

  private static void wholeIs(String what, HiddenSteps x, String digits) {
    java.math.BigInteger got = java.math.BigInteger.ZERO;
    for (int k = 25; k >= 0; k--) {
      got = got.multiply(java.math.BigInteger.TEN.pow(18)).add(java.math.BigInteger.valueOf(x.part(k)));
    }
    if (!got.toString().equals(digits)) {
      wrong++;
      System.out.println(what + ": THE WHOLE is " + got + ", due is " + digits);
    }
  }

  // ---- the promises ----

  private static void promise1New() {
    HiddenSteps x = new HiddenSteps();
    due("1 chains", x.count(0), 0);
    due("1 places", x.count(1), 0);
    due("1 at", x.at(0), -2);
    due("1 state", x.state(0), -1);
    due("1 remove", x.remove(), -1);
    wholeIs("1", x, "0");
    HiddenSteps y = new HiddenSteps();
    y.chain(1, 1, 1);
    y.sign(0);
    due("1 objects share no chains", x.count(0), 0);
    due("1 objects share no row", x.count(1), 0);
  }

  private static void promise2Chain() {
    HiddenSteps x = new HiddenSteps();
    int[][] bad = {{0, 1, 1}, {9, 1, 1}, {-1, 1, 1}, {1, 0, 1}, {1, 7, 1}, {1, -3, 1}, {1, 1, 0}, {1, 1, 1001}, {1, 1, -1},
        {Integer.MIN_VALUE, 1, 1}, {1, Integer.MAX_VALUE, 1}, {1, 1, Integer.MIN_VALUE}};
    for (int[] b : bad) due("2 bad", x.chain(b[0], b[1], b[2]), HiddenSteps.NONE);
    due("2 nothing made", x.count(0), 0);
    due("2 least", x.chain(1, 1, 1), 0);
    due("2 most", x.chain(8, 6, 1000), 1);
    for (int c = 2; c < 6; c++) due("2 next", x.chain(2, 2, 10), c);
    due("2 full", x.chain(2, 2, 10), HiddenSteps.FULL);
    due("2 none before full", x.chain(0, 2, 10), HiddenSteps.NONE);
    due("2 still six", x.count(0), 6);
    for (int s = 0; s < 8; s++) {
      due("2 begin at first", x.begin(1, s, 0), 0);
      for (int t = 0; t < 8; t++) due("2 go at first", x.go(1, s, t, 0), 0);
      for (int k = 0; k < 6; k++) due("2 show at first", x.show(1, s, k, 0), 0);
    }
  }

  private static void promise3Begin() {
    HiddenSteps x = new HiddenSteps();
    due("3 no chain", x.begin(0, 0, 0), -1);
    x.chain(3, 2, 10);
    due("3 was", x.begin(0, 2, 10), 0);
    due("3 was", x.begin(0, 2, 3), 10);
    due("3 others", x.begin(0, 1, 4), 0);
    int[][] bad = {{-1, 0, 1}, {1, 0, 1}, {0, -1, 1}, {0, 3, 1}, {0, 0, -1}, {0, 0, 11}, {Integer.MAX_VALUE, 0, 0},
        {0, Integer.MIN_VALUE, 0}, {0, 0, Integer.MAX_VALUE}};
    for (int[] b : bad) due("3 bad", x.begin(b[0], b[1], b[2]), -1);
    due("3 unchanged", x.begin(0, 2, 0), 3);
    due("3 unchanged", x.begin(0, 1, 0), 4);
    due("3 unchanged", x.begin(0, 0, 0), 0);
  }

  private static void promise4Go() {
    HiddenSteps x = new HiddenSteps();
    due("4 no chain", x.go(0, 0, 0, 0), -1);
    x.chain(3, 2, 10);
    for (int s = 0; s < 3; s++) for (int t = 0; t < 3; t++) due("4 was", x.go(0, s, t, 3 * s + t), 0);
    int[][] bad = {{-1, 0, 0, 1}, {1, 0, 0, 1}, {0, -1, 0, 1}, {0, 3, 0, 1}, {0, 0, -1, 1}, {0, 0, 3, 1}, {0, 0, 0, -1}, {0, 0, 0, 11}};
    for (int[] b : bad) due("4 bad", x.go(b[0], b[1], b[2], b[3]), -1);
    for (int s = 0; s < 3; s++) for (int t = 0; t < 3; t++) due("4 from s to t", x.go(0, s, t, 10), 3 * s + t);
  }

  private static void promise5Show() {
    HiddenSteps x = new HiddenSteps();
    due("5 no chain", x.show(0, 0, 0, 0), -1);
    x.chain(3, 2, 10);
    for (int s = 0; s < 3; s++) for (int k = 0; k < 2; k++) due("5 was", x.show(0, s, k, 2 * s + k), 0);
    int[][] bad = {{-1, 0, 0, 1}, {1, 0, 0, 1}, {0, -1, 0, 1}, {0, 3, 0, 1}, {0, 0, -1, 1}, {0, 0, 2, 1}, {0, 0, 0, -1}, {0, 0, 0, 11}};
    for (int[] b : bad) due("5 bad", x.show(b[0], b[1], b[2], b[3]), -1);
    for (int s = 0; s < 3; s++) for (int k = 0; k < 2; k++) due("5 of s for x", x.show(0, s, k, 10), 2 * s + k);
  }

  private static void promise6Sound() {
    HiddenSteps x = new HiddenSteps();
    due("6 no chain", x.sound(0), -1);
    x.chain(1, 1, 1);
    due("6 all 0", x.sound(0), 0);
    weather(x);
    due("6 sound", x.sound(1), 1);
    x.begin(1, 0, 7);
    due("6 begins above T", x.sound(1), 0);
    x.begin(1, 0, 6);
    x.go(1, 1, 0, 3);
    due("6 goes below T", x.sound(1), 0);
    x.go(1, 1, 0, 4);
    x.show(1, 1, 2, 7);
    due("6 shows above T", x.sound(1), 0);
    x.show(1, 1, 2, 6);
    due("6 sound again", x.sound(1), 1);
    x.go(1, 0, 0, 8);
    x.go(1, 1, 0, 3);
    due("6 goes of all states as one would do", x.sound(1), 0);
    due("6 none", x.sound(-1), -1);
    due("6 none", x.sound(2), -1);
  }

  private static void promise7Told() {
    HiddenSteps x = new HiddenSteps();
    due("7 no chain", x.told(0, 0), -1);
    x.chain(8, 6, 1000);
    x.chain(2, 3, 4);
    due("7 n", x.told(0, 0), 8);
    due("7 m", x.told(0, 1), 6);
    due("7 T", x.told(0, 2), 1000);
    due("7 n", x.told(1, 0), 2);
    due("7 m", x.told(1, 1), 3);
    due("7 T", x.told(1, 2), 4);
    due("7 none", x.told(1, 3), -1);
    due("7 none", x.told(1, -1), -1);
    due("7 none", x.told(2, 0), -1);
    due("7 none", x.told(-1, 0), -1);
  }

  private static void promise8Sign() {
    HiddenSteps x = new HiddenSteps();
    due("8 below", x.sign(-2), -1);
    due("8 above", x.sign(6), -1);
    due("8 far below", x.sign(Integer.MIN_VALUE), -1);
    due("8 nothing came", x.count(1), 0);
    for (int i = 0; i < 60; i++) due("8 places", x.sign(i % 7 - 1), i + 1);
    due("8 full", x.sign(0), -6);
    due("8 full for missed", x.sign(-1), -6);
    due("8 none before full", x.sign(6), -1);
    for (int i = 0; i < 60; i++) due("8 in order", x.at(i), i % 7 - 1);
    due("8 sixty", x.count(1), 60);
  }

  private static void promise9Cut() {
    HiddenSteps x = new HiddenSteps();
    due("9 empty", x.cut(0), 0);
    due("9 not so many", x.cut(1), -1);
    signs(x, 1, 2, -1, 3);
    due("9 below", x.cut(-1), -1);
    due("9 not so many", x.cut(5), -1);
    due("9 all", x.cut(4), 4);
    rowIs("9 unchanged", x, 1, 2, -1, 3);
    due("9 cut", x.cut(2), 2);
    rowIs("9 first ones", x, 1, 2);
    due("9 gone", x.cut(3), -1);
    due("9 on", x.sign(5), 3);
    rowIs("9 new one", x, 1, 2, 5);
    due("9 none", x.cut(0), 0);
    rowIs("9 empty", x);
  }

  private static void promise10At() {
    HiddenSteps x = new HiddenSteps();
    due("10 empty", x.at(0), -2);
    signs(x, 5, -1, 0);
    due("10 sign", x.at(0), 5);
    due("10 missed", x.at(1), -1);
    due("10 sign", x.at(2), 0);
    due("10 behind", x.at(3), -2);
    due("10 before", x.at(-1), -2);
    due("10 far", x.at(Integer.MAX_VALUE), -2);
    due("10 far", x.at(Integer.MIN_VALUE), -2);
  }

  private static void promise11Sum() {
    HiddenSteps x = new HiddenSteps();
    due("11 none before empty", x.sum(0), -1);
    weather(x);
    due("11 none", x.sum(-1), -1);
    due("11 empty", x.sum(0), -2);
    x.begin(0, 0, 5);
    due("11 empty before rough", x.sum(0), -2);
    signs(x, 3);
    due("11 rough before unfit", x.sum(0), -3);
    x.begin(0, 0, 6);
    due("11 unfit", x.sum(0), -4);
    signs(x, 0, 1, 2);
    due("11 digits", x.sum(0), 5);
    wholeIs("11", x, "36280");
    signs(x, 0, 3);
    due("11 unfit behind", x.sum(0), -4);
    wholeIs("11 refused", x, "36280");
    signs(x, -1);
    due("11 missed", x.sum(0), 3);
    wholeIs("11 missed", x, "100");
    int ring = ring(x, 7, 2, 0, 1);
    signs(x, 1);
    due("11 0 has one digit", x.sum(ring), 1);
    wholeIs("11 nought", x, "0");
    int most = ring(x, 1000, 1, 0, 0, 0);
    x.cut(0);
    for (int i = 0; i < 60; i++) x.sign(i % 2 - 1);
    due("11 the greatest", x.sum(most), 361);
    due("11 the greatest's parts", x.part(20), 1);
    wholeIs("11 the greatest", x, "1" + "0".repeat(360));
    due("11 chains unchanged", x.sound(0), 1);
    int one = ring(x, 1, 1, 0);
    due("11 T 1", x.sum(one), 1);
    wholeIs("11 T 1", x, "1");
  }

  private static void promise12Odds() {
    HiddenSteps x = new HiddenSteps();
    due("12 no chain", x.odds(0, 0, 0, 0), -1);
    weather(x);
    due("12 empty is none", x.odds(0, 0, 0, 0), -1);
    signs(x, 0, 1, 2);
    int[][] bad = {{-1, 0, 0, 0}, {1, 0, 0, 0}, {0, -1, 0, 0}, {0, 3, 0, 0}, {0, 0, -1, 0}, {0, 0, 2, 0}, {0, 0, 0, -1}, {0, 0, 0, 3}};
    for (int[] b : bad) due("12 bad", x.odds(b[0], b[1], b[2], b[3]), -1);
    String[][][] wanted = {
        {{"30", "1060", "31800"}, {"4", "1120", "4480"}},
        {{"904", "25", "22600"}, {"342", "40", "13680"}},
        {{"7696", "1", "7696"}, {"28584", "1", "28584"}}};
    for (int i = 0; i < 3; i++) {
      x = new HiddenSteps();
      weather(x);
      signs(x, 0, 1, 2);
      for (int s = 0; s < 2; s++) {
        for (int how = 0; how < 3; how++) {
          due("12 digits", x.odds(0, i, s, how), wanted[i][s][how].length());
          wholeIs("12 odds(0, " + i + ", " + s + ", " + how + ")", x, wanted[i][s][how]);
        }
      }
    }
    x.sign(-1);
    due("12 missed ahead", x.odds(0, 3, 0, 0), 7);
    wholeIs("12 missed ahead", x, Integer.toString((7696 * 7 + 28584 * 4) * 10));
    due("12 missed behind", x.odds(0, 2, 1, 1), 3);
    wholeIs("12 missed behind", x, "100");
    x.sign(4);
    due("12 unfit", x.odds(0, 0, 0, 0), -4);
    x.begin(0, 0, 5);
    due("12 rough before unfit", x.odds(0, 0, 0, 0), -3);
    due("12 none before rough", x.odds(0, 5, 0, 0), -1);
    wholeIs("12 refused", x, "100");
    int ring = ring(x, 2, 2, 0, 1);
    signs(x, 1, 1);
    due("12 nought", x.odds(ring, 0, 0, 0), 1);
    wholeIs("12 nought", x, "0");
  }

  private static void promise13Moment() {
    HiddenSteps x = new HiddenSteps();
    due("13 no chain", x.moment(0, 0), -1);
    weather(x);
    due("13 empty is none", x.moment(0, 0), -1);
    signs(x, 0, 1, 2);
    x.sum(0);
    due("13", x.moment(0, 0), 0);
    due("13", x.moment(0, 1), 0);
    due("13", x.moment(0, 2), 1);
    wholeIs("13 leaves THE WHOLE", x, "36280");
    due("13 none", x.moment(0, 3), -1);
    due("13 none", x.moment(0, -1), -1);
    due("13 none", x.moment(1, 0), -1);
    int even = even(x);
    signs(x, 0, -1, 0);
    for (int i = 0; i < 3; i++) due("13 the least of several", x.moment(even, i), 0);
    x.begin(even, 0, 0);
    x.begin(even, 5, 2);
    due("13 the greatest", x.moment(even, 0), 5);
    due("13 the least of several", x.moment(even, 1), 0);
    signs(x, 0, 1, 0);
    due("13 nought", x.moment(even, 0), -5);
    due("13 nought", x.moment(even, 2), -5);
    signs(x, 1, 2);
    due("13 unfit before nought", x.moment(even, 0), -4);
    x.begin(even, 0, 1);
    due("13 rough before unfit", x.moment(even, 0), -3);
    due("13 none before rough", x.moment(even, 2), -1);
  }

  private static void promise14Best() {
    HiddenSteps x = new HiddenSteps();
    due("14 no chain", x.best(0, 0), -1);
    weather(x);
    due("14 none before empty", x.best(0, 20), -1);
    due("14 none before empty", x.best(0, -1), -1);
    due("14 empty", x.best(0, 0), -2);
    signs(x, 0, 1, 2);
    String[] chances = {"15120", "9720", "5880", "2592", "1152", "1080", "448", "288"};
    int[][] rows = {{0, 0, 1}, {0, 1, 1}, {0, 0, 0}, {1, 1, 1}, {1, 0, 1}, {0, 1, 0}, {1, 0, 0}, {1, 1, 0}};
    for (int k = 0; k < 8; k++) {
      due("14 digits of " + k, x.best(0, k), chances[k].length());
      wholeIs("14 chance of " + k, x, chances[k]);
      statesAre("14 row " + k, x, rows[k]);
    }
    due("14 not so many", x.best(0, 8), 0);
    due("14 not so many", x.best(0, 19), 0);
    wholeIs("14 nothing changes", x, "288");
    statesAre("14 nothing changes", x, 1, 1, 0);
    x.sign(3);
    due("14 unfit", x.best(0, 0), -4);
    x.begin(0, 0, 5);
    due("14 rough before unfit", x.best(0, 0), -3);
    x.cut(0);
    due("14 empty before rough", x.best(0, 0), -2);
    wholeIs("14 refused", x, "288");
    statesAre("14 refused", x, 1, 1, 0);
    bestOfLikeOnes();
    bestWithoutNoughts();
    bestOfOnePlace();
  }

  private static void bestOfLikeOnes() {
    String chance = java.math.BigInteger.TWO.pow(180).toString();
    for (int k = 19; k >= 0; k--) {
      HiddenSteps x = new HiddenSteps();
      int even = even(x);
      for (int i = 0; i < 60; i++) x.sign(-1);
      due("14 like ones", x.best(even, k), chance.length());
      wholeIs("14 like ones", x, chance);
      int[] states = new int[60];
      states[59] = k % 8;
      states[58] = k / 8;
      statesAre("14 like ones, " + k, x, states);
    }
    // A greater chance comes before states that come first.
    HiddenSteps x = new HiddenSteps();
    int even = even(x);
    for (int i = 0; i < 60; i++) x.sign(-1);
    x.begin(even, 7, 2);
    x.begin(even, 3, 0);
    x.best(even, 0);
    due("14 greater first", x.state(0), 7);
  }

  private static void bestWithoutNoughts() {
    HiddenSteps x = new HiddenSteps();
    int ring = ring(x, 9, 2, 0, 1, 0);
    signs(x, 0, -1, 0, 0);
    due("14 the only one", x.best(ring, 0), 8);
    wholeIs("14 the only one", x, Integer.toString(43046721));
    statesAre("14 the only one", x, 0, 1, 2, 0);
    due("14 no second", x.best(ring, 1), 0);
    signs(x, 1);
    due("14 none at all", x.best(ring, 0), 0);
    statesAre("14 none at all", x, 0, 1, 2, 0);
  }

  private static void bestOfOnePlace() {
    HiddenSteps x = new HiddenSteps();
    int c = make(x, 10, new int[] {2, 6, 2}, new int[][] {{10, 0, 0}, {0, 10, 0}, {0, 0, 10}},
        new int[][] {{9, 1}, {3, 7}, {9, 1}});
    signs(x, 0);
    int[] states = {0, 1, 2};
    for (int k = 0; k < 3; k++) {
      due("14 one place", x.best(c, k), 2);
      wholeIs("14 one place", x, "18");
      statesAre("14 one place", x, states[k]);
    }
    due("14 one place", x.best(c, 3), 0);
  }

  private static void promise15State() {
    HiddenSteps x = new HiddenSteps();
    due("15 none yet", x.state(0), -1);
    int c = weather(x);
    signs(x, 0, 1, 2);
    due("15 none yet", x.state(0), -1);
    x.best(c, 0);
    statesAre("15", x, 0, 0, 1);
    due("15 before", x.state(-1), -1);
    due("15 far", x.state(Integer.MIN_VALUE), -1);
    due("15 far", x.state(Integer.MAX_VALUE), -1);
    x.sign(0);
    x.sum(c);
    statesAre("15 kept while the row grows", x, 0, 0, 1);
    x.cut(1);
    statesAre("15 kept while the row shrinks", x, 0, 0, 1);
    x.remove();
    statesAre("15 kept without its chain", x, 0, 0, 1);
    weather(x);
    x.best(0, 0);
    statesAre("15 a shorter one", x, 0);
  }

  private static void promise16Compare() {
    HiddenSteps x = new HiddenSteps();
    due("16 no chains", x.compare(0, 0), -2);
    weather(x);
    int other = make(x, 1000, new int[] {1000}, new int[][] {{1000}}, new int[][] {{340, 300, 160, 200}});
    due("16 empty", x.compare(0, other), -2);
    signs(x, 0);
    due("16 34 of 100 and 340 of 1000", x.compare(0, other), 0);
    due("16 itself", x.compare(0, 0), 0);
    signs(x, 1);
    due("16 greater", x.compare(0, other), 1);
    due("16 less", x.compare(other, 0), -1);
    signs(x, -1, -1, -1);
    due("16 both sure", x.compare(0, other), 0);
    signs(x, 3);
    due("16 unfit for one", x.compare(0, other), -2);
    due("16 unfit for the other", x.compare(other, 0), -2);
    due("16 fits itself", x.compare(other, other), 0);
    due("16 none", x.compare(other, 2), -2);
    due("16 none", x.compare(-1, other), -2);
    signs(x, 0);
    x.sum(0);
    x.show(other, 0, 0, 339);
    due("16 rough", x.compare(0, other), -2);
    due("16 rough", x.compare(other, 0), -2);
    x.show(other, 0, 3, 201);
    due("16 just greater", x.compare(0, other), 1);
    wholeIs("16 leaves THE WHOLE", x, "34");
    // Chances as near to 1 as can be, over sixty places with unlike totals.
    int most = make(x, 1000, new int[] {1000}, new int[][] {{1000}}, new int[][] {{999, 1}});
    int less = make(x, 999, new int[] {999}, new int[][] {{999}}, new int[][] {{998, 1}});
    x.cut(0);
    for (int i = 0; i < 60; i++) x.sign(0);
    due("16 sixty places", x.compare(most, less), 1);
    due("16 sixty places", x.compare(less, most), -1);
    due("16 sixty places", x.compare(most, most), 0);
  }

  private static void pairRefusals(String what, HiddenSteps x, boolean whetherSame) {
    int sound = weather(x);
    int rough = weather(x);
    x.begin(rough, 0, 5);
    int signs = make(x, 10, new int[] {10}, new int[][] {{10}}, new int[][] {{5, 5}});
    int total = make(x, 5, new int[] {5}, new int[][] {{5}}, new int[][] {{3, 1, 1}});
    int[][] asked = {{sound, 4, -1}, {4, sound, -1}, {-1, sound, -1}, {rough, 4, -1}, {sound, rough, -3}, {rough, sound, -3},
        {rough, rough, -3}, {rough, signs, -3}, {signs, rough, -3}, {sound, signs, -4}, {signs, sound, -4}, {sound, total, -4}};
    signs(x, 1, 5, -1);
    for (int[] a : asked) {
      due(what + " refused", whetherSame ? x.same(a[0], a[1]) : x.apart(a[0], a[1]), a[2]);
      rowIs(what + " refused", x, 1, 5, -1);
    }
  }

  private static void promise17Same() {
    pairRefusals("17", new HiddenSteps(), true);
    HiddenSteps x = new HiddenSteps();
    int a = ring(x, 3, 2, 0, 1);
    int b = ring(x, 3, 2, 0, 1, 0, 1);
    int c = ring(x, 3, 2, 0, 1, 0, 1, 0, 1, 0, 0);
    signs(x, 1, 5);
    due("17 itself", x.same(a, a), 1);
    due("17 other states", x.same(a, b), 1);
    due("17 other states", x.same(b, a), 1);
    due("17 apart at the end", x.same(a, c), 0);
    due("17 apart at the end", x.same(c, b), 0);
    rowIs("17 leaves THE ROW", x, 1, 5);
    wholeIs("17 leaves THE WHOLE", x, "0");
    // A state that is never reached makes no difference.
    int d = make(x, 3, new int[] {3, 0, 0}, new int[][] {{0, 3, 0}, {3, 0, 0}, {1, 1, 1}}, new int[][] {{3, 0}, {0, 3}, {1, 2}});
    due("17 never reached", x.same(a, d), 1);
  }

  private static void promise18Apart() {
    pairRefusals("18", new HiddenSteps(), false);
    HiddenSteps x = new HiddenSteps();
    int a = ring(x, 3, 2, 0, 1);
    int b = ring(x, 3, 2, 0, 1, 0, 1);
    int c = ring(x, 3, 2, 0, 1, 0, 1, 0, 1, 0, 0);
    signs(x, 1, 5);
    x.sum(a);
    due("18 the same", x.apart(a, b), 0);
    rowIs("18 the same", x);
    due("18 eight signs", x.apart(a, c), 8);
    rowIs("18 eight signs", x, 0, 1, 0, 1, 0, 1, 0, 0);
    due("18 either way", x.apart(c, a), 8);
    rowIs("18 either way", x, 0, 1, 0, 1, 0, 1, 0, 0);
    wholeIs("18 leaves THE WHOLE", x, "0");
    due("18 itself", x.apart(c, c), 0);
    rowIs("18 itself", x);
    apartLate();
    apartByAPrime();
  }

  /** Rows with the periods 8 and 7 may agree in 13 places, and in one more if the second has a place before its period. */
  private static void apartLate() {
    HiddenSteps x = new HiddenSteps();
    int a = ring(x, 1000, 2, 0, 0, 0, 0, 0, 0, 1, 0);
    int b = ring(x, 1000, 2, 0, 0, 0, 0, 0, 0, 1);
    due("18 late", x.apart(a, b), 14);
    rowIs("18 late", x, 0, 0, 0, 0, 0, 0, 1, 0, 0, 0, 0, 0, 0, 0);
    x = new HiddenSteps();
    a = ring(x, 1000, 2, 0, 0, 0, 0, 0, 0, 0, 1);
    b = ring(x, 1000, 2, 0, 0, 0, 0, 0, 0, 0, 1);
    due("18 not yet", x.apart(a, b), 0);
    x.go(b, 7, 0, 0);
    x.go(b, 7, 1, 1000);
    due("18 as late as can be", x.apart(a, b), 15);
    rowIs("18 as late as can be", x, 0, 0, 0, 0, 0, 0, 0, 1, 0, 0, 0, 0, 0, 0, 0);
    due("17 as late as can be", x.same(b, a), 0);
  }

  /** The chances of the row 0, 0 differ by 2^31 - 1 just, a prime; those of other rows by other numbers. */
  private static void apartByAPrime() {
    apartByAPrime(new int[][] {{1000, 0}, {1, 999}, {0, 1000}});
    apartByAPrime(new int[][] {{1000, 0, 0}, {1, 500, 499}, {0, 0, 1000}});
    apartByAPrimeAlone();
    apartByAPrimeForEver();
  }

  private static void apartByAPrime(int[][] shows) {
    HiddenSteps x = new HiddenSteps();
    int[] begins = {500, 1, 499};
    int a = make(x, 1000, begins, new int[][] {{4, 294, 702}, {484, 0, 516}, {0, 0, 1000}}, shows);
    int b = make(x, 1000, begins, new int[][] {{0, 0, 1000}, {0, 353, 647}, {0, 0, 1000}}, shows);
    apartByAPrime(x, a, b);
  }

  /** The chances of each row of two signs differ by 2^31 - 1 just, those of longer rows by other numbers. */
  private static void apartByAPrimeAlone() {
    HiddenSteps x = new HiddenSteps();
    int[] begins = {1, 3, 5, 991};
    int[][] shows = {{1000, 0}, {999, 1}, {0, 1000}, {0, 1000}};
    int a = make(x, 1000, begins, new int[][] {{280, 713, 0, 7}, {836, 0, 0, 164}, {0, 0, 430, 570}, {0, 0, 0, 1000}}, shows);
    int b = make(x, 1000, begins, new int[][] {{0, 0, 993, 7}, {0, 451, 385, 164}, {158, 272, 0, 570}, {0, 0, 0, 1000}}, shows);
    apartByAPrime(x, a, b);
  }

  /** As above, but all things end in state 3, so that the chances of longer rows differ by that prime's multiples only. */
  private static void apartByAPrimeForEver() {
    HiddenSteps x = new HiddenSteps();
    int[] begins = {1, 3, 5, 991, 0, 0, 0};
    int[][] shows = {{1000, 0}, {999, 1}, {0, 1000}, {0, 1000}, {1000, 0}, {999, 1}, {0, 1000}};
    int[] end = {0, 0, 0, 1000, 0, 0, 0};
    int a = make(x, 1000, begins, new int[][] {{0, 0, 0, 7, 280, 713, 0}, {0, 0, 0, 164, 836, 0, 0}, {0, 0, 0, 570, 0, 0, 430},
        end, end, end, end}, shows);
    int b = make(x, 1000, begins, new int[][] {{0, 0, 0, 7, 0, 0, 993}, {0, 0, 0, 164, 0, 451, 385}, {0, 0, 0, 570, 158, 272, 0},
        end, end, end, end}, shows);
    apartByAPrime(x, a, b);
  }

  private static void apartByAPrime(HiddenSteps x, int a, int b) {
    due("17 by a prime", x.same(a, b), 0);
    due("18 by a prime", x.apart(a, b), 2);
    rowIs("18 by a prime", x, 0, 0);
    x.sum(a);
    long one = x.part(0);
    x.sum(b);
    due("18 the test's own prime", one - x.part(0), 2147483647);
  }

  private static void promise19Twins() {
    HiddenSteps x = new HiddenSteps();
    due("19 no chain", x.twins(0, 0, 0), -1);
    int c = make(x, 10, new int[] {6, 2, 2}, new int[][] {{7, 1, 2}, {4, 3, 3}, {4, 5, 1}}, new int[][] {{5, 4, 1}, {1, 3, 6}, {1, 3, 6}});
    signs(x, 2, -1);
    x.sum(c);
    due("19 twins", x.twins(c, 1, 2), 1);
    due("19 twins", x.twins(c, 2, 1), 1);
    due("19 itself", x.twins(c, 0, 0), 1);
    due("19 unlike", x.twins(c, 0, 1), 0);
    due("19 unlike", x.twins(c, 2, 0), 0);
    rowIs("19 leaves THE ROW", x, 2, -1);
    int[][] bad = {{-1, 0, 0}, {1, 0, 0}, {0, -1, 0}, {0, 3, 0}, {0, 0, -1}, {0, 0, 3}};
    for (int[] b : bad) due("19 bad", x.twins(b[0], b[1], b[2]), -1);
    x.begin(c, 0, 5);
    due("19 rough", x.twins(c, 0, 0), -3);
    due("19 none before rough", x.twins(c, 0, 3), -1);
    int ring = ring(x, 5, 2, 0, 0, 0, 1, 0, 0, 0, 1);
    for (int s = 0; s < 8; s++) {
      for (int t = 0; t < 8; t++) due("19 ring " + s + " " + t, x.twins(ring, s, t), s % 4 == t % 4 ? 1 : 0);
    }
    int late = ring(x, 5, 2, 0, 0, 0, 0, 0, 0, 0, 1);
    due("19 unlike late", x.twins(late, 0, 1), 0);
    due("19 unlike at once", x.twins(late, 6, 7), 0);
  }

  private static void promise20Part() {
    HiddenSteps x = new HiddenSteps();
    due("20 below", x.part(-1), -1);
    due("20 above", x.part(26), -1);
    due("20 far", x.part(Integer.MIN_VALUE), -1);
    due("20 far", x.part(Integer.MAX_VALUE), -1);
    for (int k = 0; k < 26; k++) due("20 at first", x.part(k), 0);
    int c = make(x, 1000, new int[] {1000}, new int[][] {{1000}}, new int[][] {{999, 1}});
    x.cut(0);
    for (int i = 0; i < 60; i++) x.sign(0);
    due("20 digits", x.sum(c), 360);
    java.math.BigInteger rest = java.math.BigInteger.valueOf(999000).pow(60);
    java.math.BigInteger eighteen = java.math.BigInteger.TEN.pow(18);
    for (int k = 0; k < 26; k++) {
      due("20 part " + k, x.part(k), rest.mod(eighteen).longValueExact());
      rest = rest.divide(eighteen);
    }
    due("20 below", x.part(-1), -1);
    due("20 above", x.part(26), -1);
  }

  private static void promise21Count() {
    HiddenSteps x = new HiddenSteps();
    due("21 none", x.count(-1), -1);
    due("21 none", x.count(2), -1);
    x.chain(1, 1, 1);
    x.chain(1, 1, 1);
    signs(x, 0, 0, -1);
    due("21 chains", x.count(0), 2);
    due("21 places", x.count(1), 3);
    x.remove();
    x.cut(1);
    due("21 chains", x.count(0), 1);
    due("21 places", x.count(1), 1);
  }

  private static void promise22Remove() {
    HiddenSteps x = new HiddenSteps();
    due("22 none", x.remove(), -1);
    weather(x);
    int c = ring(x, 5, 2, 0, 1);
    signs(x, 0, 1);
    x.sum(c);
    due("22 left", x.remove(), 1);
    due("22 gone", x.sound(1), -1);
    due("22 gone", x.told(1, 0), -1);
    due("22 the first stays", x.told(0, 1), 3);
    due("22 the first stays", x.sound(0), 1);
    rowIs("22 leaves THE ROW", x, 0, 1);
    wholeIs("22 leaves THE WHOLE", x, "625");
    due("22 its number again", x.chain(2, 2, 5), 1);
    due("22 all 0 again", x.begin(1, 0, 1), 0);
    due("22 left", x.remove(), 1);
    due("22 left", x.remove(), 0);
    due("22 none", x.remove(), -1);
    due("22 none", x.count(0), 0);
    for (int i = 0; i < 6; i++) x.chain(1, 1, 1);
    due("22 full", x.chain(1, 1, 1), -6);
    due("22 five left", x.remove(), 5);
    due("22 room again", x.chain(1, 1, 1), 5);
  }

  public static void main(String[] args) {
    promise1New();
    promise2Chain();
    promise3Begin();
    promise4Go();
    promise5Show();
    promise6Sound();
    promise7Told();
    promise8Sign();
    promise9Cut();
    promise10At();
    promise11Sum();
    promise12Odds();
    promise13Moment();
    promise14Best();
    promise15State();
    promise16Compare();
    promise17Same();
    promise18Apart();
    promise19Twins();
    promise20Part();
    promise21Count();
    promise22Remove();
    System.out.println(wrong == 0 ? "the promises hold" : wrong + " answers are not as due");
    if (wrong != 0) System.exit(1);
  }
}
