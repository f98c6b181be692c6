import java.math.BigInteger;
import java.util.Random;

/**
 * Runs of calls drawn with a fixed seed, each answer held against a slow model
 * that takes other ways: states are struck from the chain one by one over
 * BigInteger fractions, and all partings are tried for those that are alike.
 * An argument sets the number of runs.
 */
public final class OracleTest {
  /** Each call is followed by upper() and lower(): an object is used for 512 calls at most. */
  private static final int CALLS = 170;
  private static int wrong = 0;

  public static void main(String[] args) {
    int runs = args.length > 0 ? Integer.parseInt(args[0]) : 400;
    Random dice = new Random(args.length > 1 ? Long.parseLong(args[1]) : 20261115L);
    for (int run = 0; run < runs && wrong < 20; run++) oneRun(run, dice);
    System.out.println(wrong == 0 ? "all answers are those of the model" : wrong + " answers are not those of the model");
    if (wrong != 0) System.exit(1);
  }

  private static void oneRun(int run, Random dice) {
    ChainSolves x = new ChainSolves();
    Model m = new Model();
    StringBuilder log = new StringBuilder();
    int states = 1 + dice.nextInt(8);
    int arcs = dice.nextInt(30);
    boolean heavy = dice.nextInt(3) == 0;
    boolean ladder = dice.nextInt(4) == 0;
    for (int i = 0; i < CALLS && wrong < 20; i++) {
      int[] c;
      if (i < states) c = new int[] {1, 0, 0, 0};
      else if (ladder && i < 3 * states) c = rung(i - states, states);
      else if (i < states + arcs) c = new int[] {2, dice.nextInt(states), dice.nextInt(states), heavy ? 9 - 2 * dice.nextInt(4) : 1 + dice.nextInt(4)};
      else c = anyCall(dice, m.n);
      log.append(' ').append(c[0]).append('(').append(c[1]).append(',').append(c[2]).append(',').append(c[3]).append(')');
      int got = call(x, c);
      int want = m.call(c);
      boolean same = got == want && m.answer.isBy(x.upper(), x.lower());
      if (!same) {
        wrong++;
        System.out.println("run " + run + " call " + i + ": answered " + got + " " + x.upper() + "/" + x.lower()
            + ", due is " + want + " " + m.answer.up + "/" + m.answer.low + "; calls:" + log);
        return;
      }
    }
  }

  // A ladder falls back to its foot nearly always: its means are the greatest.
  private static int[] rung(int k, int states) {
    int from = Math.min(k / 2, states - 1);
    return k % 2 == 0 ? new int[] {2, from, 0, 9} : new int[] {2, from, Math.min(from + 1, states - 1), 1};
  }

  private static int[] anyCall(Random dice, int n) {
    int kind = dice.nextInt(400);
    int op = kind == 0 ? 0 : kind < 4 ? 1 : kind < 40 ? 2 : kind < 60 ? 3 : 4 + dice.nextInt(13);
    int[] c = {op, aState(dice, n), aState(dice, n), aState(dice, n)};
    if (op == 2) c[3] = dice.nextInt(3) == 0 ? 0 : dice.nextInt(12) - 1;
    if (op == 3) c[2] = dice.nextInt(4) == 0 ? 99 + dice.nextInt(3) : dice.nextInt(4) == 0 ? -102 + dice.nextInt(4) : dice.nextInt(3);
    if (op == 11) c[2] = dice.nextInt(10) == 0 ? dice.nextInt() : dice.nextInt(1 << n);
    if (op == 14) c[3] = dice.nextInt(7) - 1;
    if (op == 16) c[1] = dice.nextInt(8) - 1;
    return c;
  }

  private static int aState(Random dice, int n) {
    if (n == 0 || dice.nextInt(40) == 0) return dice.nextInt(10) == 0 ? dice.nextInt() : dice.nextInt(10) - 1;
    return dice.nextInt(n);
  }

  private static int call(ChainSolves x, int[] c) {
    switch (c[0]) {
      case 0: x.clear(); return 0;
      case 1: return x.state();
      case 2: return x.arc(c[1], c[2], c[3]);
      case 3: return x.reward(c[1], c[2]);
      case 4: return x.part(c[1]);
      case 5: return x.closed(c[1]);
      case 6: return x.period(c[1]);
      case 7: return x.alike(c[1]);
      case 8: return x.ever(c[1], c[2]);
      case 9: return x.again(c[1]);
      case 10: return x.before(c[1], c[2], c[3]);
      case 11: return x.steps(c[1], c[2]);
      case 12: return x.visits(c[1], c[2]);
      case 13: return x.share(c[1], c[2]);
      case 14: return x.after(c[1], c[2], c[3]);
      case 15: return x.worth(c[1]);
      default: return x.told(c[1]);
    }
  }

  static final class Frac {
    static final Frac ZERO = new Frac(BigInteger.ZERO, BigInteger.ONE);
    static final Frac ONE = new Frac(BigInteger.ONE, BigInteger.ONE);
    final BigInteger up;
    final BigInteger low;
    Frac(BigInteger a, BigInteger b) {
      BigInteger g = a.gcd(b);
      if (b.signum() < 0) g = g.negate();
      up = a.divide(g);
      low = b.divide(g);
    }
    static Frac of(long a, long b) { return new Frac(BigInteger.valueOf(a), BigInteger.valueOf(b)); }
    Frac plus(Frac o) { return new Frac(up.multiply(o.low).add(o.up.multiply(low)), low.multiply(o.low)); }
    Frac minus(Frac o) { return new Frac(up.multiply(o.low).subtract(o.up.multiply(low)), low.multiply(o.low)); }
    Frac times(Frac o) { return new Frac(up.multiply(o.up), low.multiply(o.low)); }
    Frac by(Frac o) { return new Frac(up.multiply(o.low), low.multiply(o.up)); }
    boolean isZero() { return up.signum() == 0; }
    boolean isOne() { return up.equals(low); }
    boolean isBy(long a, long b) { return up.equals(BigInteger.valueOf(a)) && low.equals(BigInteger.valueOf(b)); }
  }

  static final class Model {
    int n = 0;
    int[][] w = new int[7][7];
    int[] r = new int[7];
    Frac answer = Frac.ZERO;

    int call(int[] c) {
      switch (c[0]) {
        case 0: n = 0; w = new int[7][7]; r = new int[7]; answer = Frac.ZERO; return 0;
        case 1: return n == 7 ? -4 : n++;
        case 2: return arc(c[1], c[2], c[3]);
        case 3: return reward(c[1], c[2]);
        case 4: return no(c[1]) ? -1 : part(c[1]);
        case 5: return no(c[1]) ? -1 : closed(c[1]);
        case 6: return no(c[1]) ? -1 : period(c[1]);
        case 7: return no(c[1]) ? -1 : groups()[c[1]];
        case 8: return no(c[1]) || no(c[2]) ? -1 : tell(meet(c[1], 1 << c[2], 0));
        case 9: return no(c[1]) ? -1 : tell(again(c[1]));
        case 10: return no(c[1]) || no(c[2]) || no(c[3]) ? -1 : c[2] == c[3] ? -3 : tell(meet(c[1], 1 << c[2], 1 << c[3]));
        case 11: return steps(c[1], c[2]);
        case 12: return visits(c[1], c[2]);
        case 13: return no(c[1]) || no(c[2]) ? -1 : tell(share(c[1], c[2]));
        case 14: return no(c[1]) || no(c[2]) ? -1 : c[3] < 0 || c[3] > 4 ? -2 : tell(after(c[1], c[2], c[3]));
        case 15: return worth(c[1]);
        default: return told(c[1]);
      }
    }

    boolean no(int s) { return s < 0 || s >= n; }
    int tell(Frac f) { answer = f; return 1; }
    int total(int s) { int t = 0; for (int j = 0; j < n; j++) t += w[s][j]; return t; }

    int arc(int from, int to, int v) {
      if (no(from) || no(to)) return -1;
      int old = w[from][to];
      if (v < 0 || v > 9) return -2;
      w[from][to] = v;
      if (total(from) > 12) { w[from][to] = old; return -2; }
      return old;
    }

    int reward(int s, int v) {
      if (no(s)) return -1;
      if (v < -100 || v > 100) return -2;
      int old = r[s];
      r[s] = v;
      return old + 100;
    }

    Frac odds(int i, int j) {
      int t = total(i);
      return t == 0 ? (i == j ? Frac.ONE : Frac.ZERO) : Frac.of(w[i][j], t);
    }

    Frac[][] matrix() {
      Frac[][] p = new Frac[n][n];
      for (int i = 0; i < n; i++) for (int j = 0; j < n; j++) p[i][j] = odds(i, j);
      return p;
    }

    boolean[][] reach() {
      boolean[][] can = new boolean[n][n];
      for (int i = 0; i < n; i++) for (int j = 0; j < n; j++) can[i][j] = i == j || w[i][j] > 0;
      for (int k = 0; k < n; k++) for (int i = 0; i < n; i++) for (int j = 0; j < n; j++) can[i][j] |= can[i][k] && can[k][j];
      return can;
    }

    int part(int s) {
      boolean[][] can = reach();
      for (int i = 0; i < n; i++) if (can[i][s] && can[s][i]) return i;
      return -99;
    }

    int closed(int s) {
      boolean[][] can = reach();
      for (int i = 0; i < n; i++) if (can[s][i] && !can[i][s]) return 0;
      return 1;
    }

    int period(int s) {
      boolean[] at = new boolean[n];
      at[s] = true;
      int g = 0;
      for (int k = 1; k <= 150; k++) {
        boolean[] next = new boolean[n];
        for (int i = 0; i < n; i++) for (int j = 0; j < n; j++) next[j] |= at[i] && !odds(i, j).isZero();
        at = next;
        if (at[s]) g = BigInteger.valueOf(g).gcd(BigInteger.valueOf(k)).intValue();
      }
      return g;
    }

    int[] groups() {
      int[][] best = {null, {99}};
      growParting(new int[n], 0, 0, best);
      int[] least = new int[n];
      for (int i = 0; i < n; i++) for (int j = n - 1; j >= 0; j--) if (best[0][j] == best[0][i]) least[i] = j;
      return least;
    }

    void growParting(int[] group, int at, int used, int[][] best) {
      if (at < n) {
        for (int g = 0; g <= used; g++) { group[at] = g; growParting(group, at + 1, Math.max(used, g + 1), best); }
      } else if (used < best[1][0] && holdsTogether(group)) {
        best[0] = group.clone();
        best[1][0] = used;
      }
    }

    boolean holdsTogether(int[] group) {
      for (int a = 0; a < n; a++) for (int b = a + 1; b < n; b++) {
        if (group[a] != group[b]) continue;
        int ta = total(a);
        int tb = total(b);
        if ((ta == 0) != (tb == 0) || r[a] != r[b]) return false;
        if (ta == 0) continue;
        int[] diff = new int[n];
        for (int j = 0; j < n; j++) diff[group[j]] += w[a][j] * tb - w[b][j] * ta;
        for (int d : diff) if (d != 0) return false;
      }
      return true;
    }

    /** Strikes all states but the kept ones: what then leads where, and what is gained on the way. */
    void strike(Frac[][] p, Frac[] gain, int kept) {
      for (int k = 0; k < n; k++) {
        if ((kept >> k & 1) != 0) continue;
        Frac away = Frac.ONE.minus(p[k][k]);
        for (int i = 0; i < n; i++) {
          if (i == k || p[i][k].isZero()) continue;
          if (!away.isZero()) {
            Frac f = p[i][k].by(away);
            for (int j = 0; j < n; j++) if (j != k) p[i][j] = p[i][j].plus(f.times(p[k][j]));
            gain[i] = gain[i].plus(f.times(gain[k]));
          }
          p[i][k] = Frac.ZERO;
        }
      }
    }

    Frac[] none() {
      Frac[] gain = new Frac[n];
      java.util.Arrays.fill(gain, Frac.ZERO);
      return gain;
    }

    Frac meet(int from, int goal, int shun) {
      if ((goal >> from & 1) != 0) return Frac.ONE;
      if ((shun >> from & 1) != 0) return Frac.ZERO;
      Frac[][] p = matrix();
      strike(p, none(), goal | shun | 1 << from);
      if (p[from][from].isOne()) return Frac.ZERO;
      Frac sum = Frac.ZERO;
      for (int j = 0; j < n; j++) if ((goal >> j & 1) != 0) sum = sum.plus(p[from][j]);
      return sum.by(Frac.ONE.minus(p[from][from]));
    }

    Frac again(int s) {
      Frac[][] p = matrix();
      strike(p, none(), 1 << s);
      return p[s][s];
    }

    Frac mean(int from, int stop, Frac[] gain) {
      Frac[][] p = matrix();
      for (int i = 0; i < n; i++) if ((stop >> i & 1) != 0) gain[i] = Frac.ZERO;
      strike(p, gain, stop | 1 << from);
      return gain[from].by(Frac.ONE.minus(p[from][from]));
    }

    int steps(int from, int set) {
      if (no(from) || set < 0 || set >= 1 << n) return -1;
      if (!meet(from, set, 0).isOne()) return -3;
      if ((set >> from & 1) != 0) return tell(Frac.ZERO);
      Frac[] gain = none();
      java.util.Arrays.fill(gain, Frac.ONE);
      return tell(mean(from, set, gain));
    }

    int visits(int from, int to) {
      if (no(from) || no(to)) return -1;
      Frac f = meet(from, 1 << to, 0);
      if (f.isZero()) return tell(f);
      Frac back = again(to);
      return back.isOne() ? -3 : tell(f.by(Frac.ONE.minus(back)));
    }

    /** Shares of a closed part: by leaving out states from the last one on, then building up again. */
    Frac share(int from, int to) {
      if (closed(to) == 0) return Frac.ZERO;
      Frac[][] p = matrix();
      boolean[][] can = reach();
      Frac[] s = none();
      for (int k = n - 1; k >= 0; k--) {
        if (!can[to][k] || k == to) continue;
        Frac away = Frac.ONE.minus(p[k][k]);
        for (int i = 0; i < n; i++) for (int j = 0; j < n; j++) {
          if (left(i, k, to) && left(j, k, to) && can[to][i] && can[to][j]) p[i][j] = p[i][j].plus(p[i][k].times(p[k][j]).by(away));
        }
      }
      s[to] = Frac.ONE;
      Frac all = Frac.ONE;
      for (int k = 0; k < n; k++) {
        if (!can[to][k] || k == to) continue;
        for (int i = 0; i < n; i++) if (left(i, k, to) && can[to][i]) s[k] = s[k].plus(s[i].times(p[i][k]));
        s[k] = s[k].by(Frac.ONE.minus(p[k][k]));
        all = all.plus(s[k]);
      }
      return meet(from, 1 << to, 0).by(all);
    }

    boolean left(int i, int k, int to) { return i == to || i < k; }

    Frac after(int from, int to, int k) {
      if (k == 0) return from == to ? Frac.ONE : Frac.ZERO;
      Frac sum = Frac.ZERO;
      for (int j = 0; j < n; j++) {
        Frac o = odds(from, j);
        if (!o.isZero()) sum = sum.plus(o.times(after(j, to, k - 1)));
      }
      return sum;
    }

    int worth(int from) {
      if (no(from)) return -1;
      int ends = 0;
      for (int i = 0; i < n; i++) if (total(i) == 0) ends |= 1 << i;
      if (!meet(from, ends, 0).isOne()) return -3;
      if ((ends >> from & 1) != 0) return tell(Frac.ZERO);
      Frac[] gain = none();
      for (int i = 0; i < n; i++) gain[i] = Frac.of(r[i], 1);
      return tell(mean(from, ends, gain));
    }

    int told(int what) {
      int found = 0;
      int[] groups = what == 5 ? groups() : null;
      if (what < 0 || what > 5) return -2;
      if (what == 0) return n;
      for (int i = 0; i < n; i++) {
        if (what == 1) for (int j = 0; j < n; j++) found += w[i][j] != 0 ? 1 : 0;
        if (what == 2 && total(i) == 0) found++;
        if (what == 3 && part(i) == i) found++;
        if (what == 4 && part(i) == i && closed(i) == 1) found++;
        if (what == 5 && groups[i] == i) found++;
      }
      return found;
    }
  }
}
