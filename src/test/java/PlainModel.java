import java.util.ArrayList;
import java.util.List;

/**
 * The document word by word, without regard to speed: relations are tables of pairs, closed by
 * the rules of the congruence's definition; levels are copies of all that is there.
 */
final class PlainModel {
  static final int NONE = -1;
  static final int BAD = -2;
  static final int FULL = -3;

  private List<int[]> terms = new ArrayList<>();
  private List<int[]> equations = new ArrayList<>();
  private List<int[]> disequations = new ArrayList<>();
  private final List<List<List<int[]>>> levels = new ArrayList<>();

  int make(int symbol, int a, int b) {
    if (badShape(symbol, a, b)) return BAD;
    for (int t = 0; t < terms.size(); t++) {
      int[] term = terms.get(t);
      if (term[0] == symbol && term[1] == a && term[2] == b) return t;
    }
    if (terms.size() == 40) return FULL;
    terms.add(new int[] {symbol, a, b});
    return terms.size() - 1;
  }

  int equate(int s, int t) {
    if (bad(s) || bad(t)) return BAD;
    if (equations.size() == 24) return FULL;
    int before = classes();
    equations.add(new int[] {s, t});
    return before - classes();
  }

  int differ(int s, int t) {
    if (bad(s) || bad(t)) return BAD;
    if (disequations.size() == 16) return FULL;
    disequations.add(new int[] {s, t});
    return disequations.size() - 1;
  }

  int open() {
    if (levels.size() == 6) return FULL;
    List<List<int[]>> copy = new ArrayList<>();
    copy.add(new ArrayList<>(terms));
    copy.add(new ArrayList<>(equations));
    copy.add(new ArrayList<>(disequations));
    levels.add(copy);
    return levels.size();
  }

  int close() {
    if (levels.isEmpty()) return NONE;
    List<List<int[]>> copy = levels.remove(levels.size() - 1);
    terms = copy.get(0);
    equations = copy.get(1);
    disequations = copy.get(2);
    return levels.size();
  }

  int equal(int s, int t) {
    if (bad(s) || bad(t)) return BAD;
    return congruence(everything())[s][t] ? 1 : 0;
  }

  int apart(int s, int t) {
    if (bad(s) || bad(t)) return BAD;
    boolean[][] same = congruence(everything());
    for (int[] d : disequations) {
      if (same[d[0]][s] && same[d[1]][t]) return 1;
      if (same[d[1]][s] && same[d[0]][t]) return 1;
    }
    return 0;
  }

  boolean consistent() {
    boolean[][] same = congruence(everything());
    for (int[] d : disequations) {
      if (same[d[0]][d[1]]) return false;
    }
    return true;
  }

  int leader(int t) {
    if (bad(t)) return BAD;
    return lowestEqual(congruence(everything()), t);
  }

  int members(int t) {
    if (bad(t)) return BAD;
    int count = 0;
    for (boolean one : congruence(everything())[t]) {
      if (one) count++;
    }
    return count;
  }

  int classes() {
    boolean[][] same = congruence(everything());
    int count = 0;
    for (int t = 0; t < terms.size(); t++) {
      if (lowestEqual(same, t) == t) count++;
    }
    return count;
  }

  int find(int symbol, int a, int b) {
    if (badShape(symbol, a, b)) return BAD;
    boolean[][] same = congruence(everything());
    int[] shape = {symbol, a, b};
    for (int t = 0; t < terms.size(); t++) {
      for (int u = 0; u < terms.size(); u++) {
        if (same[t][u] && congruent(same, terms.get(u), shape)) return t;
      }
    }
    return NONE;
  }

  int since(int s, int t) {
    if (bad(s) || bad(t)) return BAD;
    return leastWith(new ArrayList<>(), s, t);
  }

  int explanation(int s, int t) {
    if (bad(s) || bad(t)) return BAD;
    if (equal(s, t) == 0) return NONE;
    List<Integer> has = new ArrayList<>();
    while (!congruence(has)[s][t]) {
      has.add(leastWith(has, s, t) - 1);
    }
    int sum = 0;
    for (int i : has) sum += power(i);
    return sum;
  }

  int needed(int s, int t) {
    if (bad(s) || bad(t)) return BAD;
    if (equal(s, t) == 0) return NONE;
    int sum = 0;
    for (int i = 0; i < equations.size(); i++) {
      List<Integer> others = everything();
      others.remove(i);
      if (!congruence(others)[s][t]) sum += power(i);
    }
    return sum;
  }

  long weight(int t) {
    if (bad(t)) return 0;
    return weights(congruence(everything()))[t];
  }

  int best(int t) {
    if (bad(t)) return BAD;
    boolean[][] same = congruence(everything());
    return bestOf(same, weights(same), t);
  }

  int written(int t, int k) {
    if (bad(t)) return BAD;
    boolean[][] same = congruence(everything());
    long[] weights = weights(same);
    if (k < 0 || k >= weights[t]) return NONE;
    List<Integer> symbols = new ArrayList<>();
    write(same, weights, t, k + 1, symbols);
    return symbols.get(k);
  }

  int terms() {
    return terms.size();
  }

  int equations() {
    return equations.size();
  }

  private boolean bad(int t) {
    return t < 0 || t >= terms.size();
  }

  private boolean badShape(int symbol, int a, int b) {
    if (symbol < 0 || symbol > 15) return true;
    if (a != NONE && bad(a)) return true;
    if (b != NONE && bad(b)) return true;
    return a == NONE && b != NONE;
  }

  private static int power(int i) {
    int p = 1;
    for (int j = 0; j < i; j++) p *= 2;
    return p;
  }

  private List<Integer> everything() {
    List<Integer> all = new ArrayList<>();
    for (int i = 0; i < equations.size(); i++) all.add(i);
    return all;
  }

  private int leastWith(List<Integer> has, int s, int t) {
    for (int k = 0; k <= equations.size(); k++) {
      List<Integer> set = new ArrayList<>(has);
      for (int i = 0; i < k; i++) set.add(i);
      if (congruence(set)[s][t]) return k;
    }
    return NONE;
  }

  private boolean[][] congruence(List<Integer> set) {
    int n = terms.size();
    boolean[][] same = new boolean[n][n];
    for (int t = 0; t < n; t++) same[t][t] = true;
    for (int i : set) {
      same[equations.get(i)[0]][equations.get(i)[1]] = true;
      same[equations.get(i)[1]][equations.get(i)[0]] = true;
    }
    boolean grows = true;
    while (grows) {
      closeTransitively(same);
      grows = false;
      for (int t = 0; t < n; t++) {
        for (int u = 0; u < n; u++) {
          if (!same[t][u] && congruent(same, terms.get(t), terms.get(u))) {
            same[t][u] = true;
            same[u][t] = true;
            grows = true;
          }
        }
      }
    }
    return same;
  }

  private static void closeTransitively(boolean[][] same) {
    for (int v = 0; v < same.length; v++) {
      for (int t = 0; t < same.length; t++) {
        if (!same[t][v]) continue;
        for (int u = 0; u < same.length; u++) {
          if (same[v][u]) same[t][u] = true;
        }
      }
    }
  }

  private static boolean congruent(boolean[][] same, int[] x, int[] y) {
    if (x[0] != y[0]) return false;
    for (int place = 1; place <= 2; place++) {
      boolean xHas = x[place] != NONE;
      boolean yHas = y[place] != NONE;
      if (xHas != yHas) return false;
      if (xHas && !same[x[place]][y[place]]) return false;
    }
    return true;
  }

  private static int lowestEqual(boolean[][] same, int t) {
    for (int u = 0; u < same.length; u++) {
      if (same[u][t]) return u;
    }
    return t;
  }

  /** Settles the lightest term whose arguments are settled, with all that is equal to it. */
  private long[] weights(boolean[][] same) {
    long[] weights = new long[terms.size()];
    while (true) {
      int lightest = NONE;
      long least = Long.MAX_VALUE;
      for (int t = 0; t < terms.size(); t++) {
        if (weights[t] != 0) continue;
        long cost = cost(weights, t);
        if (cost != 0 && cost < least) {
          least = cost;
          lightest = t;
        }
      }
      if (lightest == NONE) return weights;
      for (int u = 0; u < terms.size(); u++) {
        if (same[u][lightest]) weights[u] = least;
      }
    }
  }

  /** 0 when an argument is not yet settled. */
  private long cost(long[] weights, int t) {
    long cost = 1;
    for (int place = 1; place <= 2; place++) {
      int argument = terms.get(t)[place];
      if (argument == NONE) continue;
      if (weights[argument] == 0) return 0;
      cost += weights[argument];
    }
    return cost;
  }

  private int bestOf(boolean[][] same, long[] weights, int t) {
    for (int u = 0; u < terms.size(); u++) {
      if (same[u][t] && cost(weights, u) == weights[t]) return u;
    }
    return NONE;
  }

  /** Writes t until there are as many symbols as asked for. */
  private void write(boolean[][] same, long[] weights, int t, int enough, List<Integer> symbols) {
    if (symbols.size() >= enough) return;
    int[] best = terms.get(bestOf(same, weights, t));
    symbols.add(best[0]);
    if (best[1] != NONE) write(same, weights, best[1], enough, symbols);
    if (best[2] != NONE) write(same, weights, best[2], enough, symbols);
  }
}
