import java.math.BigInteger;
import java.util.ArrayList;
import java.util.Arrays;
import java.util.List;
import java.util.Random;

/**
 * Runs of at most 512 calls, chosen by a fixed seed, on the class and on a plain
 * model of the document; every answer of the two must be the same, and at the end of a
 * run all that can be seen of them.
 */
public final class ModelTests {
  /** How many calls a run has before all that can be seen is looked at. */
  private static final int CHANGES = 350;
  private static final int[] TOTALS = {1, 2, 3, 4, 6, 10, 10, 100, 999, 1000, 1000};
  private static int wrong = 0;

  // ---- the model ----

  private static final class Chain {
    final int n, m, total;
    final int[] begin;
    final int[][] go, show;

    Chain(int n, int m, int total) {
      this.n = n;
      this.m = m;
      this.total = total;
      begin = new int[n];
      go = new int[n][n];
      show = new int[n][m];
    }

    boolean sound() {
      if (Arrays.stream(begin).sum() != total) return false;
      for (int s = 0; s < n; s++) {
        if (Arrays.stream(go[s]).sum() != total || Arrays.stream(show[s]).sum() != total) return false;
      }
      return true;
    }

    int shown(int s, int x) {
      return x < 0 ? total : show[s][x];
    }
  }

  private static final class Path {
    final BigInteger chance;
    final int[] states;

    Path(BigInteger chance, int[] states) {
      this.chance = chance;
      this.states = states;
    }

    Path with(int s, long factor) {
      int[] longer = Arrays.copyOf(states, states.length + 1);
      longer[states.length] = s;
      return new Path(chance.multiply(BigInteger.valueOf(factor)), longer);
    }

    static int order(Path a, Path b) {
      int c = b.chance.compareTo(a.chance);
      return c != 0 ? c : Arrays.compare(a.states, b.states);
    }
  }

  private static final class Model {
    final List<Chain> chains = new ArrayList<>();
    final List<Integer> row = new ArrayList<>();
    BigInteger whole = BigInteger.ZERO;
    int[] found = {};

    boolean has(int c) {
      return c >= 0 && c < chains.size();
    }

    int refusal(int c) {
      if (row.isEmpty()) return -2;
      if (!chains.get(c).sound()) return -3;
      for (int x : row) if (x >= chains.get(c).m) return -4;
      return 0;
    }

    int set(BigInteger value) {
      whole = value;
      return value.toString().length();
    }

    long call(int[] q) {
      switch (q[0]) {
        case 0: return chain(q[1], q[2], q[3]);
        case 1: return begin(q[1], q[2], q[3]);
        case 2: return go(q[1], q[2], q[3], q[4]);
        case 3: return show(q[1], q[2], q[3], q[4]);
        case 4: return has(q[1]) ? chains.get(q[1]).sound() ? 1 : 0 : -1;
        case 5: return told(q[1], q[2]);
        case 6: return sign(q[1]);
        case 7: return cut(q[1]);
        case 8: return q[1] >= 0 && q[1] < row.size() ? row.get(q[1]) : -2;
        case 9: return sum(q[1]);
        case 10: return odds(q[1], q[2], q[3], q[4]);
        case 11: return moment(q[1], q[2]);
        case 12: return best(q[1], q[2]);
        case 13: return q[1] >= 0 && q[1] < found.length ? found[q[1]] : -1;
        case 14: return compare(q[1], q[2]);
        case 15: return same(q[1], q[2]);
        case 16: return apart(q[1], q[2]);
        case 17: return twins(q[1], q[2], q[3]);
        case 18: return part(q[1]);
        case 19: return q[1] == 0 ? chains.size() : q[1] == 1 ? row.size() : -1;
        default: return remove();
      }
    }

    int chain(int n, int m, int total) {
      if (n < 1 || n > 8 || m < 1 || m > 6 || total < 1 || total > 1000) return -1;
      if (chains.size() == 6) return -6;
      chains.add(new Chain(n, m, total));
      return chains.size() - 1;
    }

    int begin(int c, int s, int w) {
      if (!has(c)) return -1;
      Chain h = chains.get(c);
      if (s < 0 || s >= h.n || w < 0 || w > h.total) return -1;
      int was = h.begin[s];
      h.begin[s] = w;
      return was;
    }

    int go(int c, int s, int t, int w) {
      if (!has(c)) return -1;
      Chain h = chains.get(c);
      if (s < 0 || s >= h.n || t < 0 || t >= h.n || w < 0 || w > h.total) return -1;
      int was = h.go[s][t];
      h.go[s][t] = w;
      return was;
    }

    int show(int c, int s, int x, int w) {
      if (!has(c)) return -1;
      Chain h = chains.get(c);
      if (s < 0 || s >= h.n || x < 0 || x >= h.m || w < 0 || w > h.total) return -1;
      int was = h.show[s][x];
      h.show[s][x] = w;
      return was;
    }

    int told(int c, int what) {
      if (!has(c) || what < 0 || what > 2) return -1;
      Chain h = chains.get(c);
      return new int[] {h.n, h.m, h.total}[what];
    }

    int sign(int x) {
      if (x < -1 || x > 5) return -1;
      if (row.size() == 60) return -6;
      row.add(x);
      return row.size();
    }

    int cut(int n) {
      if (n < 0 || n > row.size()) return -1;
      while (row.size() > n) row.remove(row.size() - 1);
      return n;
    }

    BigInteger ahead(Chain h, int i, int s) {
      return aheads(h, i)[s];
    }

    BigInteger[] aheads(Chain h, int i) {
      BigInteger[] made = new BigInteger[h.n];
      BigInteger[] before = i == 0 ? null : aheads(h, i - 1);
      for (int s = 0; s < h.n; s++) {
        BigInteger into = BigInteger.valueOf(h.begin[s]);
        if (i > 0) {
          into = BigInteger.ZERO;
          for (int r = 0; r < h.n; r++) into = into.add(before[r].multiply(BigInteger.valueOf(h.go[r][s])));
        }
        made[s] = into.multiply(BigInteger.valueOf(h.shown(s, row.get(i))));
      }
      return made;
    }

    BigInteger[] behinds(Chain h, int i) {
      BigInteger[] made = new BigInteger[h.n];
      Arrays.fill(made, BigInteger.ONE);
      if (i == row.size() - 1) return made;
      BigInteger[] after = behinds(h, i + 1);
      for (int s = 0; s < h.n; s++) {
        made[s] = BigInteger.ZERO;
        for (int t = 0; t < h.n; t++) {
          made[s] = made[s].add(after[t].multiply(BigInteger.valueOf((long) h.go[s][t] * h.shown(t, row.get(i + 1)))));
        }
      }
      return made;
    }

    BigInteger chance(Chain h) {
      BigInteger sum = BigInteger.ZERO;
      for (BigInteger b : aheads(h, row.size() - 1)) sum = sum.add(b);
      return sum;
    }

    int sum(int c) {
      if (!has(c)) return -1;
      int refused = refusal(c);
      return refused != 0 ? refused : set(chance(chains.get(c)));
    }

    int odds(int c, int i, int s, int how) {
      if (!has(c) || i < 0 || i >= row.size() || s < 0 || s >= chains.get(c).n || how < 0 || how > 2) return -1;
      int refused = refusal(c);
      if (refused != 0) return refused;
      BigInteger ahead = ahead(chains.get(c), i, s);
      BigInteger behind = behinds(chains.get(c), i)[s];
      return set(how == 0 ? ahead : how == 1 ? behind : ahead.multiply(behind));
    }

    int moment(int c, int i) {
      if (!has(c) || i < 0 || i >= row.size()) return -1;
      int refused = refusal(c);
      if (refused != 0) return refused;
      Chain h = chains.get(c);
      if (chance(h).signum() == 0) return -5;
      BigInteger[] ahead = aheads(h, i);
      BigInteger[] behind = behinds(h, i);
      int best = 0;
      for (int s = 1; s < h.n; s++) {
        if (ahead[s].multiply(behind[s]).compareTo(ahead[best].multiply(behind[best])) > 0) best = s;
      }
      return best;
    }

    int best(int c, int k) {
      if (!has(c) || k < 0 || k > 19) return -1;
      int refused = refusal(c);
      if (refused != 0) return refused;
      Chain h = chains.get(c);
      List<Path> paths = Math.pow(h.n, row.size()) <= 3000 ? paths(h, Integer.MAX_VALUE) : paths(h, 20);
      if (k >= paths.size()) return 0;
      found = paths.get(k).states;
      return set(paths.get(k).chance);
    }

    /** From the first place on; with a limit, only so many of each last state are gone on with. */
    List<Path> paths(Chain h, int limit) {
      List<Path> paths = new ArrayList<>();
      Path none = new Path(BigInteger.ONE, new int[0]);
      for (int s = 0; s < h.n; s++) {
        long w = (long) h.begin[s] * h.shown(s, row.get(0));
        if (w > 0) paths.add(none.with(s, w));
      }
      for (int i = 1; i < row.size(); i++) {
        List<Path> longer = new ArrayList<>();
        for (int t = 0; t < h.n; t++) {
          List<Path> ending = new ArrayList<>();
          for (Path p : paths) {
            long w = (long) h.go[p.states[i - 1]][t] * h.shown(t, row.get(i));
            if (w > 0) ending.add(p.with(t, w));
          }
          ending.sort(Path::order);
          longer.addAll(ending.subList(0, Math.min(limit, ending.size())));
        }
        paths = longer;
      }
      paths.sort(Path::order);
      return paths;
    }

    int compare(int a, int b) {
      if (!has(a) || !has(b) || refusal(a) != 0 || refusal(b) != 0) return -2;
      Chain g = chains.get(a);
      Chain h = chains.get(b);
      BigInteger left = chance(g).multiply(BigInteger.valueOf(h.total).pow(2 * row.size()));
      BigInteger right = chance(h).multiply(BigInteger.valueOf(g.total).pow(2 * row.size()));
      return left.compareTo(right);
    }

    int pairRefusal(int a, int b) {
      if (!has(a) || !has(b)) return -1;
      Chain g = chains.get(a);
      Chain h = chains.get(b);
      if (!g.sound() || !h.sound()) return -3;
      return g.m == h.m && g.total == h.total ? 0 : -4;
    }

    int same(int a, int b) {
      int refused = pairRefusal(a, b);
      return refused != 0 ? refused : telling(a, b) == null ? 1 : 0;
    }

    int apart(int a, int b) {
      int refused = pairRefusal(a, b);
      if (refused != 0) return refused;
      List<Integer> word = telling(a, b);
      row.clear();
      if (word != null) row.addAll(word);
      return row.size();
    }

    List<Integer> telling(int a, int b) {
      Chain g = chains.get(a);
      Chain h = chains.get(b);
      return Telling.find(g, toBig(g.begin), h, toBig(h.begin));
    }

    int twins(int c, int s, int t) {
      if (!has(c)) return -1;
      Chain h = chains.get(c);
      if (s < 0 || s >= h.n || t < 0 || t >= h.n) return -1;
      if (!h.sound()) return -3;
      int[] one = new int[h.n];
      int[] other = new int[h.n];
      one[s] = 1;
      other[t] = 1;
      return Telling.find(h, toBig(one), h, toBig(other)) == null ? 1 : 0;
    }

    long part(int k) {
      if (k < 0 || k > 25) return -1;
      return whole.divide(BigInteger.TEN.pow(18 * k)).mod(BigInteger.TEN.pow(18)).longValueExact();
    }

    int remove() {
      if (chains.isEmpty()) return -1;
      chains.remove(chains.size() - 1);
      return chains.size();
    }
  }

  private static BigInteger[] toBig(int[] values) {
    BigInteger[] big = new BigInteger[values.length];
    for (int i = 0; i < big.length; i++) big[i] = BigInteger.valueOf(values[i]);
    return big;
  }

  /** The first row of signs that tells two beginnings apart, by all rows of signs where there are few. */
  private static final class Telling {
    static List<Integer> find(Chain g, BigInteger[] one, Chain h, BigInteger[] other) {
      int reach = g.n + h.n;
      return Math.pow(g.m, reach) <= 5000 ? byAll(g, one, h, other, reach) : byBasis(g, one, h, other);
    }

    static BigInteger[] step(Chain h, BigInteger[] from, int x) {
      BigInteger[] to = new BigInteger[h.n];
      Arrays.fill(to, BigInteger.ZERO);
      for (int s = 0; s < h.n; s++) {
        BigInteger shown = from[s].multiply(BigInteger.valueOf(h.show[s][x]));
        if (shown.signum() == 0) continue;
        for (int t = 0; t < h.n; t++) to[t] = to[t].add(shown.multiply(BigInteger.valueOf(h.go[s][t])));
      }
      return to;
    }

    static BigInteger sum(BigInteger[] values) {
      BigInteger sum = BigInteger.ZERO;
      for (BigInteger v : values) sum = sum.add(v);
      return sum;
    }

    static List<Integer> byAll(Chain g, BigInteger[] one, Chain h, BigInteger[] other, int reach) {
      for (int length = 1; length <= reach; length++) {
        List<Integer> word = behind(new ArrayList<>(), g, one, h, other, length);
        if (word != null) return word;
      }
      return null;
    }

    static List<Integer> behind(List<Integer> word, Chain g, BigInteger[] one, Chain h, BigInteger[] other, int more) {
      if (more == 0) return sum(one).equals(sum(other)) ? null : word;
      for (int x = 0; x < g.m; x++) {
        List<Integer> longer = new ArrayList<>(word);
        longer.add(x);
        List<Integer> found = behind(longer, g, step(g, one, x), h, step(h, other, x), more - 1);
        if (found != null) return found;
      }
      return null;
    }

    /** Goes on only with rows whose vectors are no mix of those before, by whole numbers of any size. */
    static List<Integer> byBasis(Chain g, BigInteger[] one, Chain h, BigInteger[] other) {
      List<List<Integer>> words = new ArrayList<>();
      List<BigInteger[]> ones = new ArrayList<>();
      List<BigInteger[]> others = new ArrayList<>();
      List<BigInteger[]> basis = new ArrayList<>();
      if (extend(basis, one, other)) {
        words.add(new ArrayList<>());
        ones.add(one);
        others.add(other);
      }
      for (int k = 0; k < words.size(); k++) {
        for (int x = 0; x < g.m; x++) {
          List<Integer> word = new ArrayList<>(words.get(k));
          word.add(x);
          BigInteger[] a = step(g, ones.get(k), x);
          BigInteger[] b = step(h, others.get(k), x);
          if (!sum(a).equals(sum(b))) return word;
          if (extend(basis, a, b)) {
            words.add(word);
            ones.add(a);
            others.add(b);
          }
        }
      }
      return null;
    }

    static boolean extend(List<BigInteger[]> basis, BigInteger[] a, BigInteger[] b) {
      BigInteger[] v = Arrays.copyOf(a, a.length + b.length);
      for (int i = 0; i < b.length; i++) v[a.length + i] = b[i].negate();
      for (BigInteger[] line : basis) {
        int p = pivot(line);
        if (v[p].signum() == 0) continue;
        BigInteger factor = v[p];
        for (int i = 0; i < v.length; i++) v[i] = v[i].multiply(line[p]).subtract(line[i].multiply(factor));
        shrink(v);
      }
      if (pivot(v) < 0) return false;
      basis.add(v);
      return true;
    }

    static int pivot(BigInteger[] v) {
      for (int i = 0; i < v.length; i++) if (v[i].signum() != 0) return i;
      return -1;
    }

    static void shrink(BigInteger[] v) {
      BigInteger common = BigInteger.ZERO;
      for (BigInteger b : v) common = common.gcd(b);
      if (common.signum() == 0) return;
      for (int i = 0; i < v.length; i++) v[i] = v[i].divide(common);
    }
  }

  // ---- the runs ----

  private static final class Run {
    final int number;
    final Random random;
    final HiddenSteps real = new HiddenSteps();
    final Model model = new Model();
    int calls = 0;
    boolean failed = false;

    Run(int number) {
      this.number = number;
      random = new Random(number);
    }

    static long onReal(HiddenSteps x, int[] q) {
      switch (q[0]) {
        case 0: return x.chain(q[1], q[2], q[3]);
        case 1: return x.begin(q[1], q[2], q[3]);
        case 2: return x.go(q[1], q[2], q[3], q[4]);
        case 3: return x.show(q[1], q[2], q[3], q[4]);
        case 4: return x.sound(q[1]);
        case 5: return x.told(q[1], q[2]);
        case 6: return x.sign(q[1]);
        case 7: return x.cut(q[1]);
        case 8: return x.at(q[1]);
        case 9: return x.sum(q[1]);
        case 10: return x.odds(q[1], q[2], q[3], q[4]);
        case 11: return x.moment(q[1], q[2]);
        case 12: return x.best(q[1], q[2]);
        case 13: return x.state(q[1]);
        case 14: return x.compare(q[1], q[2]);
        case 15: return x.same(q[1], q[2]);
        case 16: return x.apart(q[1], q[2]);
        case 17: return x.twins(q[1], q[2], q[3]);
        case 18: return x.part(q[1]);
        case 19: return x.count(q[1]);
        default: return x.remove();
      }
    }

    long both(int... q) {
      calls++;
      long want = model.call(q);
      long got = onReal(real, q);
      if (got != want && !failed) {
        failed = true;
        wrong++;
        System.out.println("run " + number + ", call " + calls + ": " + Arrays.toString(q) + " answered " + got + ", due is " + want);
      }
      return want;
    }

    int upTo(int most) {
      return random.nextInt(most + 1);
    }

    /** Most often a number 0 .. most, at times one beside them or far away. */
    int about(int most) {
      int dice = random.nextInt(40);
      if (dice == 0) return -1;
      if (dice == 1) return most + 1;
      if (dice == 2) return random.nextInt();
      return upTo(Math.max(0, most));
    }

    /** Whole numbers whose sum is the total, in one of several kinds. */
    int[] split(int n, int total, int kind) {
      int[] w = new int[n];
      if (kind == 0) {
        w[upTo(n - 1)] = total;
      } else if (kind == 1) {
        for (int i = 0; i < total; i++) w[i % n]++;
      } else {
        int left = total;
        for (int i = 0; i < n && left > 0; i++) {
          int take = kind == 2 ? upTo(left) : Math.min(left, upTo(2 * total / n + 1));
          w[upTo(n - 1)] += take;
          left -= take;
        }
        w[upTo(n - 1)] += left;
      }
      return w;
    }

    void fill(int c, Chain h) {
      for (int s = 0; s < h.n; s++) {
        both(1, c, s, h.begin[s]);
        for (int t = 0; t < h.n; t++) if (h.go[s][t] > 0) both(2, c, s, t, h.go[s][t]);
        for (int x = 0; x < h.m; x++) if (h.show[s][x] > 0) both(3, c, s, x, h.show[s][x]);
      }
    }

    void makeSound(int most) {
      int n = 1 + upTo(most - 1);
      int total = TOTALS[upTo(TOTALS.length - 1)];
      Chain h = new Chain(n, 1 + upTo(random.nextInt(3) == 0 ? 5 : 2), total);
      int kinds = random.nextInt(5);
      System.arraycopy(split(n, total, kinds == 4 ? upTo(3) : kinds), 0, h.begin, 0, n);
      for (int s = 0; s < n; s++) {
        h.go[s] = split(n, total, kinds == 4 ? upTo(3) : kinds);
        h.show[s] = split(h.m, total, kinds == 4 ? upTo(3) : kinds);
      }
      int c = (int) both(0, h.n, h.m, h.total);
      if (c >= 0) fill(c, h);
    }

    /** A chain that is the same as another, but for other states, and at times for one weight. */
    void makeLike(int c) {
      Chain g = model.chains.get(c);
      int n = g.n < 8 && random.nextBoolean() ? g.n + 1 : g.n;
      int[] of = new int[n];
      for (int i = 0; i < n; i++) of[i] = i < g.n ? i : upTo(g.n - 1);
      for (int i = n - 1; i > 0; i--) {
        int j = upTo(i);
        int k = of[i];
        of[i] = of[j];
        of[j] = k;
      }
      Chain h = new Chain(n, g.m, g.total);
      spread(g.begin, of, h.begin);
      for (int s = 0; s < n; s++) {
        spread(g.go[of[s]], of, h.go[s]);
        System.arraycopy(g.show[of[s]], 0, h.show[s], 0, g.m);
      }
      if (random.nextBoolean()) shift(random.nextBoolean() ? h.go[upTo(n - 1)] : h.show[upTo(n - 1)]);
      int made = (int) both(0, h.n, h.m, h.total);
      if (made >= 0) fill(made, h);
    }

    /** Shares out each weight among the states that stand for one. */
    void spread(int[] weights, int[] of, int[] into) {
      for (int r = 0; r < weights.length; r++) {
        int left = weights[r];
        int last = -1;
        for (int s = 0; s < of.length; s++) {
          if (of[s] != r) continue;
          into[s] = upTo(left);
          left -= into[s];
          last = s;
        }
        into[last] += left;
      }
    }

    void shift(int[] weights) {
      int from = upTo(weights.length - 1);
      int to = upTo(weights.length - 1);
      if (weights[from] == 0) return;
      int w = 1 + upTo(weights[from] - 1);
      weights[from] -= w;
      weights[to] += w;
    }

    /** Signs of any kind, or such as a chain may show. */
    void changeRow(int c) {
      if (random.nextInt(4) > 0) both(7, 0);
      int more = random.nextInt(4) == 0 ? 60 : 1 + upTo(8);
      boolean walk = model.has(c) && model.chains.get(c).sound() && random.nextInt(8) > 0;
      int state = walk ? draw(model.chains.get(c).begin) : 0;
      for (int i = 0; i < more && calls < CHANGES; i++) {
        int sign = walk ? draw(model.chains.get(c).show[state]) : upTo(random.nextInt(4) == 0 ? 5 : 1);
        if (walk) state = draw(model.chains.get(c).go[state]);
        both(6, random.nextInt(6) == 0 ? -1 : sign);
      }
    }

    int draw(int[] weights) {
      int left = upTo(Arrays.stream(weights).sum() - 1);
      int i = 0;
      while (left >= weights[i]) left -= weights[i++];
      return i;
    }

    /** Most often the weight comes back, for else few chains would stay sound. */
    void changeWeight(int... q) {
      long was = both(q);
      if (was < 0 || random.nextInt(8) == 0) return;
      both(9, q[1]);
      q[q.length - 1] = (int) was;
      both(q);
    }

    int someChain() {
      return about(model.chains.size() - 1);
    }

    void step() {
      int c = someChain();
      boolean there = model.has(c);
      int n = there ? model.chains.get(c).n : 8;
      int m = there ? model.chains.get(c).m : 6;
      int total = there ? model.chains.get(c).total : 1000;
      int last = model.row.size() - 1;
      int dice = random.nextInt(100);
      if (dice < 4 && calls < 220) makeSound(random.nextInt(4) == 0 ? 8 : 4);
      else if (dice < 8 && there && calls < 220 && model.chains.get(c).sound()) makeLike(c);
      else if (dice < 12) changeRow(c);
      else if (dice < 14) both(7, about(last + 1));
      else if (dice < 15) both(0, about(8), about(6), about(1000));
      else if (dice < 17) both(20);
      else if (dice < 18) changeWeight(1, c, about(n - 1), about(total));
      else if (dice < 19) changeWeight(2, c, about(n - 1), about(n - 1), about(total));
      else if (dice < 20) changeWeight(3, c, about(n - 1), about(m - 1), about(total));
      else if (dice < 22) both(4, c);
      else if (dice < 24) both(5, c, about(2));
      else if (dice < 26) both(6, about(5));
      else if (dice < 28) both(8, about(last));
      else if (dice < 36) both(9, c);
      else if (dice < 46) both(10, c, about(last), about(n - 1), about(2));
      else if (dice < 54) both(11, c, about(last));
      else if (dice < 64) both(12, c, random.nextBoolean() ? about(19) : upTo(3));
      else if (dice < 70) both(13, about(model.found.length - 1));
      else if (dice < 75) both(14, c, someChain());
      else if (dice < 79) both(15, c, someChain());
      else if (dice < 83) both(16, c, someChain());
      else if (dice < 88) both(17, c, about(n - 1), about(n - 1));
      else if (dice < 97) both(18, about(25));
      else both(19, about(1));
    }

    void lookAtAll() {
      for (int k = -1; k <= 26; k++) both(18, k);
      for (int i = -1; i <= model.found.length; i++) both(13, i);
      for (int i = -1; i <= model.row.size(); i++) both(8, i);
      both(19, 0);
      both(19, 1);
      if (calls > 512) throw new IllegalStateException("run " + number + " has too many calls");
    }

    /** Three chains of many states that are told apart late or not at all. */
    void apartLate() {
      Chain h = random.nextInt(3) == 0 ? pairs() : ring();
      both(0, h.n, h.m, h.total);
      fill(0, h);
      if (random.nextBoolean()) makeTurned(h);
      makeLike(0);
      while (model.chains.size() < 3) makeLike(0);
      for (int a = 0; a < 3; a++) {
        for (int b = 0; b < 3; b++) {
          both(16, a, b);
          both(14, a, b);
          both(9, a);
        }
        both(15, a, upTo(2));
      }
      for (int s = 0; s < h.n; s++) both(17, upTo(2), s, upTo(h.n - 1));
      lookAtAll();
    }

    /** Each state goes to few others; all but one show the signs with the same chances, at times one sign for sure. */
    Chain ring() {
      int total = TOTALS[upTo(TOTALS.length - 1)];
      int n = 5 + upTo(3);
      Chain h = new Chain(n, 2 + upTo(1), total);
      h.begin[0] = total;
      int turn = upTo(n - 1);
      int[] shows = split(h.m, total, random.nextBoolean() ? 0 : 3);
      for (int s = 0; s < n; s++) {
        h.go[s][(s + 1) % n] = total;
        h.show[s] = shows.clone();
        if (s == turn || random.nextInt(8) == 0) shift(h.show[s]);
        if (random.nextInt(6) == 0) shift(h.go[s]);
      }
      return h;
    }

    /** States two by two, each pair before the next: so the rows of one length differ in more than one way. */
    Chain pairs() {
      int total = TOTALS[upTo(TOTALS.length - 1)];
      int n = 4 + 2 * upTo(2);
      Chain h = new Chain(n, 2, total);
      h.begin[0] = upTo(total);
      h.begin[1] = total - h.begin[0];
      int[][] shows = {split(2, total, 3), split(2, total, 3)};
      for (int s = 0; s < n; s++) {
        int next = (s / 2 * 2 + 2) % n;
        h.go[s][next] = upTo(total);
        h.go[s][next + 1] = total - h.go[s][next];
        h.show[s] = shows[s % 2].clone();
        if (s >= n - 2) shift(h.show[s]);
      }
      return h;
    }

    /** As a chain that is there, but from its last states it goes on to others than the first ones. */
    void makeTurned(Chain g) {
      Chain h = new Chain(g.n, g.m, g.total);
      int from = g.n - 1 - upTo(1);
      int by = 1 + upTo(2);
      System.arraycopy(g.begin, 0, h.begin, 0, g.n);
      for (int s = 0; s < g.n; s++) {
        h.show[s] = g.show[s].clone();
        for (int t = 0; t < g.n; t++) h.go[s][(t + (s >= from ? by : 0)) % g.n] = g.go[s][t];
      }
      fill((int) both(0, h.n, h.m, h.total), h);
    }

    void whole() {
      makeSound(random.nextInt(3) == 0 ? 8 : 3);
      while (calls < CHANGES) step();
      lookAtAll();
    }
  }

  public static void main(String[] args) {
    int first = args.length > 0 ? Integer.parseInt(args[0]) : 0;
    int runs = args.length > 1 ? Integer.parseInt(args[1]) : 1000;
    for (int r = first; r < first + runs && wrong < 20; r++) {
      new Run(r).whole();
      new Run(r).apartLate();
    }
    System.out.println(wrong == 0 ? 2 * runs + " runs are as the model's" : wrong + " runs are not as the model's");
    if (wrong != 0) System.exit(1);
  }
}
