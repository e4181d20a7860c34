import java.math.BigInteger;
import java.util.Arrays;
import java.util.LinkedHashMap;
import java.util.Map;

/** A new object, asked by calls that are written as the document writes them, and never more often than it allows. */
final class Bench {
  static final int MOST_CALLS = 512;

  private final HiddenSteps x = new HiddenSteps();
  private int calls = 0;

  // ---- calls ----

  static String text(String name, int... numbers) {
    String inside = Arrays.toString(numbers);
    return name + "(" + inside.substring(1, inside.length() - 1) + ")";
  }

  int calls() {
    return calls;
  }

  long ask(String call) {
    calls++;
    if (calls > MOST_CALLS) throw new IllegalStateException("the test asks an object too often");
    int open = call.indexOf('(');
    String inside = call.substring(open + 1, call.length() - 1);
    int[] a = inside.isEmpty() ? new int[0] : Arrays.stream(inside.split(", ")).mapToInt(Bench::number).toArray();
    return answer(call.substring(0, open), a);
  }

  private static int number(String word) {
    switch (word) {
      case "MIN": return Integer.MIN_VALUE;
      case "MAX": return Integer.MAX_VALUE;
      default: return Integer.parseInt(word);
    }
  }

  private long answer(String name, int[] a) {
    switch (name) {
      case "chain": return x.chain(a[0], a[1], a[2]);
      case "begin": return x.begin(a[0], a[1], a[2]);
      case "go": return x.go(a[0], a[1], a[2], a[3]);
      case "show": return x.show(a[0], a[1], a[2], a[3]);
      case "sound": return x.sound(a[0]);
      case "told": return x.told(a[0], a[1]);
      case "sign": return x.sign(a[0]);
      case "cut": return x.cut(a[0]);
      case "at": return x.at(a[0]);
      case "sum": return x.sum(a[0]);
      case "odds": return x.odds(a[0], a[1], a[2], a[3]);
      case "moment": return x.moment(a[0], a[1]);
      case "best": return x.best(a[0], a[1]);
      case "state": return x.state(a[0]);
      case "compare": return x.compare(a[0], a[1]);
      case "same": return x.same(a[0], a[1]);
      case "apart": return x.apart(a[0], a[1]);
      case "twins": return x.twins(a[0], a[1], a[2]);
      case "part": return x.part(a[0]);
      case "count": return x.count(a[0]);
      case "remove": return x.remove();
      default: throw new IllegalArgumentException("no such call: " + name);
    }
  }

  Bench due(String call, long want) {
    Check.due(call, ask(call), want);
    return this;
  }

  // ---- chains and rows ----

  /** A chain with these weights: its number. A weight of 0 is not written, for it is 0 at first. */
  int make(int total, int[] begins, int[][] goes, int[][] shows) {
    int c = (int) ask(text("chain", begins.length, shows[0].length, total));
    for (int s = 0; s < begins.length; s++) {
      if (begins[s] != 0) ask(text("begin", c, s, begins[s]));
      for (int t = 0; t < begins.length; t++) if (goes[s][t] != 0) ask(text("go", c, s, t, goes[s][t]));
      for (int k = 0; k < shows[s].length; k++) if (shows[s][k] != 0) ask(text("show", c, s, k, shows[s][k]));
    }
    return c;
  }

  /** One state, which shows its signs with these weights. */
  int single(int... shows) {
    int total = Arrays.stream(shows).sum();
    return make(total, new int[] {total}, new int[][] {{total}}, new int[][] {shows});
  }

  /** States one behind the other, behind the last one the first again; each shows one sign for sure. */
  int ring(int total, int signs, int... shown) {
    int n = shown.length;
    int[] begins = new int[n];
    int[][] goes = new int[n][n];
    int[][] shows = new int[n][signs];
    begins[0] = total;
    for (int s = 0; s < n; s++) {
      goes[s][(s + 1) % n] = total;
      shows[s][shown[s]] = total;
    }
    return make(total, begins, goes, shows);
  }

  /** THE ROW becomes these signs. */
  Bench row(int... signs) {
    ask("cut(0)");
    for (int s : signs) ask(text("sign", s));
    return this;
  }

  /** THE ROW becomes one sign so many times. */
  Bench rowOf(int places, int sign) {
    int[] signs = new int[places];
    Arrays.fill(signs, sign);
    return row(signs);
  }

  // ---- what is due of all of it ----

  void rowIs(int... row) {
    due("count(1)", row.length);
    for (int i = 0; i < row.length; i++) due(text("at", i), row[i]);
    due(text("at", row.length), -2);
  }

  void statesAre(int... states) {
    for (int i = 0; i < states.length; i++) due(text("state", i), states[i]);
    due(text("state", states.length), HiddenSteps.NONE);
  }

  /** THE WHOLE, from all of its parts. */
  BigInteger whole() {
    BigInteger whole = BigInteger.ZERO;
    for (int k = 25; k >= 0; k--) whole = whole.multiply(BigInteger.TEN.pow(18)).add(BigInteger.valueOf(ask(text("part", k))));
    return whole;
  }

  /** The call answers how many digits THE WHOLE has then, and it is this number. */
  void dueWhole(String call, BigInteger want) {
    due(call, want.toString().length());
    Check.due("THE WHOLE after " + call, whole(), want);
  }

  void dueWhole(String call, long want) {
    dueWhole(call, BigInteger.valueOf(want));
  }

  // ---- a look at all that can be seen ----

  /** By headings: chains, row, whole, states. The object is of no use after it: weights are seen by writing 0. */
  Map<String, String> look() {
    Map<String, String> seen = new LinkedHashMap<>();
    seen.put("row", lookAt("at", (int) ask("count(1)")));
    seen.put("states", lookAtStates());
    seen.put("whole", lookAt("part", 26));
    seen.put("chains", lookAtChains());
    return seen;
  }

  private String lookAtStates() {
    StringBuilder seen = new StringBuilder();
    long state = 0;
    for (int i = 0; i <= 60 && state >= 0; i++) {
      state = ask(text("state", i));
      seen.append(state).append(' ');
    }
    return seen.toString();
  }

  /** What stands at 0 .. n - 1, and that there is no more. */
  private String lookAt(String name, int n) {
    StringBuilder seen = new StringBuilder();
    for (int i = 0; i <= n; i++) seen.append(ask(text(name, i))).append(' ');
    return seen.toString();
  }

  private String lookAtChains() {
    StringBuilder seen = new StringBuilder();
    int chains = (int) ask("count(0)");
    for (int c = 0; c < chains; c++) {
      int n = (int) ask(text("told", c, 0));
      int m = (int) ask(text("told", c, 1));
      seen.append(n).append(' ').append(m).append(' ').append(ask(text("told", c, 2))).append(':');
      seen.append(ask(text("sound", c)));
      for (int s = 0; s < n; s++) {
        seen.append(" b").append(ask(text("begin", c, s, 0)));
        for (int t = 0; t < n; t++) seen.append(" g").append(ask(text("go", c, s, t, 0)));
        for (int k = 0; k < m; k++) seen.append(" s").append(ask(text("show", c, s, k, 0)));
      }
      seen.append("; ");
    }
    return seen.toString();
  }
}
