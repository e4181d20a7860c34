import java.util.ArrayList;
import java.util.Arrays;
import java.util.List;
import java.util.Random;

/**
 * The terms of the document by their own words: all rows of states and all rows of signs are gone through one by one,
 * and their products are added up. Nothing here is counted in a clever way, so that only short rows can be asked for.
 */
public final class TermTests {
  private static final int MISSED = -1;
  private static final Random RANDOM = new Random(16);

  // ---- chains ----

  private static final class Chain {
    final int n, m, total;
    final int[] begins;
    final int[][] goes, shows;

    Chain(int total, int[] begins, int[][] goes, int[][] shows) {
      this.n = begins.length;
      this.m = shows[0].length;
      this.total = total;
      this.begins = begins;
      this.goes = goes;
      this.shows = shows;
    }

    static Chain random(int n, int m, int total) {
      int[][] goes = new int[n][];
      int[][] shows = new int[n][];
      for (int s = 0; s < n; s++) {
        goes[s] = split(n, total);
        shows[s] = split(m, total);
      }
      return new Chain(total, split(n, total), goes, shows);
    }

    /** Whole numbers 0 or more that are the total together; at times one of them is all of it. */
    private static int[] split(int n, int total) {
      int[] parts = new int[n];
      int left = total;
      while (left > 0) {
        int take = RANDOM.nextInt(3) == 0 ? left : 1 + RANDOM.nextInt(left);
        parts[RANDOM.nextInt(n)] += take;
        left -= take;
      }
      return parts;
    }

    Chain beginningWith(int s) {
      int[] sure = new int[n];
      sure[s] = total;
      return new Chain(total, sure, goes, shows);
    }

    int shown(int s, int x) {
      return x == MISSED ? total : shows[s][x];
    }

    int in(Bench x) {
      return x.make(total, begins, goes, shows);
    }

    @Override
    public String toString() {
      return total + " " + Arrays.toString(begins) + Arrays.deepToString(goes) + Arrays.deepToString(shows);
    }
  }

  // ---- the terms ----

  /** All rows of so many numbers 0 .. base - 1, those that come first first. */
  private static List<int[]> rows(int base, int length) {
    List<int[]> made = new ArrayList<>();
    if (length == 0) {
      made.add(new int[0]);
      return made;
    }
    for (int[] shorter : rows(base, length - 1)) {
      for (int last = 0; last < base; last++) {
        int[] row = Arrays.copyOf(shorter, length);
        row[length - 1] = last;
        made.add(row);
      }
    }
    return made;
  }

  private static long chance(Chain h, int[] signs, int[] states) {
    long product = h.begins[states[0]];
    for (int i = 0; i < states.length; i++) product *= h.shown(states[i], signs[i]);
    for (int i = 1; i < states.length; i++) product *= h.goes[states[i - 1]][states[i]];
    return product;
  }

  private static long chance(Chain h, int[] signs) {
    long sum = 0;
    for (int[] states : rows(h.n, signs.length)) sum += chance(h, signs, states);
    return sum;
  }

  private static long ahead(Chain h, int[] signs, int i, int s) {
    long sum = 0;
    for (int[] states : rows(h.n, i + 1)) if (states[i] == s) sum += chance(h, signs, states);
    return sum;
  }

  private static long behind(Chain h, int[] signs, int i, int s) {
    long sum = 0;
    for (int[] states : rows(h.n, signs.length - 1 - i)) {
      long product = 1;
      int from = s;
      for (int k = 0; k < states.length; k++) {
        product *= (long) h.goes[from][states[k]] * h.shown(states[k], signs[i + 1 + k]);
        from = states[k];
      }
      sum += product;
    }
    return sum;
  }

  private static List<int[]> best(Chain h, int[] signs) {
    List<int[]> found = new ArrayList<>();
    for (int[] states : rows(h.n, signs.length)) if (chance(h, signs, states) > 0) found.add(states);
    // Rows with like chances stay as they come.
    found.sort((a, b) -> Long.compare(chance(h, signs, b), chance(h, signs, a)));
    return found;
  }

  /** The first of the shortest rows of signs with unlike chances, empty if there is none. */
  private static int[] telling(Chain a, Chain b) {
    for (int length = 1; length <= a.n + b.n; length++) {
      for (int[] signs : rows(a.m, length)) if (chance(a, signs) != chance(b, signs)) return signs;
    }
    return new int[0];
  }

  // ---- one chain and a row ----

  private static int[] randomRow(int m, int length) {
    int[] row = new int[length];
    for (int i = 0; i < length; i++) row[i] = RANDOM.nextInt(5) == 0 ? MISSED : RANDOM.nextInt(m);
    return row;
  }

  private static void askOfARow(Chain h, int[] row) {
    Bench x = new Bench();
    int c = h.in(x);
    x.row(row);
    Check.sentence("The CHANCE of the row is the sum of those of all rows of states: " + h + Arrays.toString(row));
    x.dueWhole(Bench.text("sum", c), chance(h, row));
    int place = RANDOM.nextInt(row.length);
    askOfAPlace(h, row, place);
    askForBest(h, row);
    askOfMissed(h, row, place);
  }

  private static void askOfAPlace(Chain h, int[] row, int i) {
    long together = 0;
    int likeliest = 0;
    long[] products = new long[h.n];
    for (int s = 0; s < h.n; s++) {
      Bench x = new Bench();
      int c = h.in(x);
      x.row(row);
      Check.sentence("AHEAD, BEHIND and their product: " + h + Arrays.toString(row));
      products[s] = ahead(h, row, i, s) * behind(h, row, i, s);
      x.dueWhole(Bench.text("odds", c, i, s, 0), ahead(h, row, i, s));
      x.dueWhole(Bench.text("odds", c, i, s, 1), behind(h, row, i, s));
      x.dueWhole(Bench.text("odds", c, i, s, 2), products[s]);
      together += products[s];
      if (products[s] > products[likeliest]) likeliest = s;
    }
    Check.due("the products of all states together", together, chance(h, row));
    Check.sentence("The state for which the product is the greatest, of several the least: " + h + Arrays.toString(row));
    Bench x = new Bench();
    int c = h.in(x);
    x.row(row).due(Bench.text("moment", c, i), together == 0 ? HiddenSteps.NOUGHT : likeliest);
  }

  private static void askForBest(Chain h, int[] row) {
    List<int[]> best = best(h, row);
    Bench x = new Bench();
    int c = h.in(x);
    x.row(row);
    Check.sentence("BEST rows of states: " + h + Arrays.toString(row));
    for (int k = 0; k < Math.min(20, best.size()); k++) {
      long chance = chance(h, row, best.get(k));
      x.due(Bench.text("best", c, k), Long.toString(chance).length()).due("part(0)", chance % 1_000_000_000_000_000_000L);
      x.statesAre(best.get(k));
    }
    if (best.size() < 20) x.due(Bench.text("best", c, best.size()), 0).due(Bench.text("best", c, 19), 0);
    x.due(Bench.text("best", c, 20), HiddenSteps.NONE);
  }

  /** Any sign may have been shown at a MISSED place: its chances are those of all signs there. */
  private static void askOfMissed(Chain h, int[] row, int place) {
    Check.sentence("MISSED: any sign may have been shown there: " + h + Arrays.toString(row));
    Bench x = new Bench();
    int c = h.in(x);
    int[] asked = row.clone();
    long sum = 0;
    for (int k = 0; k < h.m; k++) {
      asked[place] = k;
      x.row(asked).ask(Bench.text("sum", c));
      sum += x.ask("part(0)") + 1_000_000_000_000_000_000L * x.ask("part(1)");
    }
    asked[place] = MISSED;
    x.row(asked).dueWhole(Bench.text("sum", c), sum);
  }

  // ---- two chains, two states ----

  private static void askOfTwoChains(Chain a, Chain b) {
    Bench x = new Bench();
    int one = a.in(x);
    int other = b.in(x);
    int[] row = telling(a, b);
    Check.sentence("SAME if each row of signs has the same CHANCE in both: " + a + " and " + b);
    x.due(Bench.text("same", one, other), row.length == 0 ? 1 : 0);
    Check.sentence("APART: the shortest row with unlike CHANCES, of several the one whose signs come first: " + a + " and " + b);
    x.due(Bench.text("apart", one, other), row.length).rowIs(row);
    x.row(1).due(Bench.text("apart", other, one), row.length).rowIs(row);
  }

  private static void askOfTwins(Chain h) {
    Bench x = new Bench();
    int c = h.in(x);
    for (int s = 0; s < h.n; s++) {
      for (int t = 0; t < h.n; t++) {
        Check.sentence("TWINS if things that begin with s for sure show each row as those that begin with t: " + h);
        boolean twins = telling(h.beginningWith(s), h.beginningWith(t)).length == 0;
        x.due(Bench.text("twins", c, s, t), twins ? 1 : 0);
      }
    }
  }

  /** Chances below 10 to the 9 each, so that they can be multiplied crosswise. */
  private static void askWhichIsGreater(Chain a, Chain b, int[] row) {
    Bench x = new Bench();
    int one = a.in(x);
    int other = b.in(x);
    long left = chance(a, row);
    long right = chance(b, row);
    for (int i = 0; i < 2 * row.length; i++) {
      left *= b.total;
      right *= a.total;
    }
    Check.sentence("The CHANCE in a out of its own T to the 2 L is less than that in b: " + a + " and " + b + Arrays.toString(row));
    x.row(row).due(Bench.text("compare", one, other), Long.compare(left, right));
  }

  public static void main(String[] args) {
    for (int run = 0; run < 150; run++) {
      int n = 1 + RANDOM.nextInt(3);
      Chain h = Chain.random(n, 1 + RANDOM.nextInt(4), 1 + RANDOM.nextInt(40));
      askOfARow(h, randomRow(h.m, 1 + RANDOM.nextInt(5)));
      Chain wide = Chain.random(8, 1 + RANDOM.nextInt(6), 1 + RANDOM.nextInt(1000));
      askOfARow(wide, randomRow(wide.m, 1 + RANDOM.nextInt(2)));
      Chain many = Chain.random(2, 1 + RANDOM.nextInt(6), 1 + RANDOM.nextInt(4));
      askOfARow(many, randomRow(many.m, 6 + RANDOM.nextInt(3)));
      int small = 1 + RANDOM.nextInt(3);
      askOfTwoChains(Chain.random(1 + RANDOM.nextInt(3), 2, small), Chain.random(1 + RANDOM.nextInt(2), 2, small));
      askOfTwoChains(Chain.random(2, 3, small), Chain.random(1, 3, small));
      // Where all is sure, chains are often told apart late.
      askOfTwoChains(Chain.random(3, 2, 1), Chain.random(2 + RANDOM.nextInt(2), 2, 1));
      askOfTwins(Chain.random(2 + RANDOM.nextInt(2), 2, small));
      askWhichIsGreater(Chain.random(n, 3, 1 + RANDOM.nextInt(30)), Chain.random(2, 3, 1 + RANDOM.nextInt(30)), randomRow(3, 1 + RANDOM.nextInt(3)));
    }
    Check.end("the terms are as their words say");
  }
}
