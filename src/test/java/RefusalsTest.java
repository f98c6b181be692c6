/**
 * Each code that a promise tells: calls that it refuses, the order of the codes,
 * and that nothing changes then, THE ANSWER neither. Of each refused call two
 * objects are made alike; one of them gets the call, and both must look the same.
 */
public final class RefusalsTest {
  private static final int UNKNOWN = -1;
  private static final int OUTSIDE = -2;
  private static final int NOT_SO = -3;
  private static final int NO_ROOM = -4;

  private static final int STATE = 3;
  private static final int ARC = 4;
  private static final int REWARD = 5;
  private static final int PART = 6;
  private static final int CLOSED = 7;
  private static final int PERIOD = 8;
  private static final int ALIKE = 9;
  private static final int EVER = 10;
  private static final int AGAIN = 11;
  private static final int BEFORE = 12;
  private static final int STEPS = 13;
  private static final int VISITS = 14;
  private static final int SHARE = 15;
  private static final int AFTER = 16;
  private static final int WORTH = 17;
  private static final int TOLD = 20;
  private static final String[] NAMES = {"", "", "", "state", "arc", "reward", "part", "closed", "period", "alike", "ever", "again",
      "before", "steps", "visits", "share", "after", "worth", "upper", "lower", "told"};

  /** Great and small ones, those whose bit in an int falls on that of a state, and those beside the edges. */
  private static final int[] ODD = {Integer.MIN_VALUE, Integer.MIN_VALUE + 1, -33, -32, -31, -8, -7, -1, 7, 8, 9, 31, 32, 33, 64, 127,
      256, 1 << 16, 1 << 30, Integer.MAX_VALUE};
  private static final int[] OUT_OF_WEIGHT = {-1, 10, 13, -10, Integer.MIN_VALUE, Integer.MAX_VALUE};
  private static final int[] OUT_OF_REWARD = {-101, 101, 200, -200, Integer.MIN_VALUE, Integer.MAX_VALUE};
  private static final int[] OUT_OF_STEPS = {-1, 5, 6, -4, Integer.MIN_VALUE, Integer.MAX_VALUE};
  private static final int[] OUT_OF_TOLD = {-1, 6, 7, -6, Integer.MIN_VALUE, Integer.MAX_VALUE};

  private static final int[] CASES = {0, 1, 2, 3, 4};

  private static int wrong = 0;

  public static void main(String[] args) {
    stateWithoutRoom();
    for (int kase : CASES) {
      for (int s : ODD) unknownStates(kase, s);
      unknownStates(kase, make(kase).told(0));
    }
    arcOutside();
    arcAboveTotal();
    rewardOutside();
    beforeOfOne();
    stepsOfUnknownBits();
    stepsNotSure();
    visitsEndless();
    afterOutside();
    worthNotSure();
    toldOutside();
    unknownAheadOfOthers();
    System.out.println(wrong == 0 ? "all refusals hold" : wrong + " refusals are not as due");
    if (wrong != 0) System.exit(1);
  }

  /** 0: nothing. 1: an end. 2: a part of five, and its ends. 3: seven, with full totals. 4: seven that come to no end. */
  private static ChainSolves make(int kase) {
    ChainSolves x = new ChainSolves();
    int[] states = {0, 1, 5, 7, 7};
    for (int i = 0; i < states[kase]; i++) x.state();
    if (kase == 1) x.ever(0, 0);
    if (kase == 2) ruin(x);
    if (kase == 3) ladder(x);
    if (kase == 4) stays(x);
    return x;
  }

  /** 1 and 2 lead to either side, to the ends 0 and 3; 4 stays. THE ANSWER is -8 by 3. */
  private static void ruin(ChainSolves x) {
    arcs(x, 1, 0, 1, 1, 2, 1, 2, 1, 1, 2, 3, 1, 4, 4, 5);
    x.reward(0, 100);
    x.reward(1, 10);
    x.reward(2, -7);
    x.reward(4, -100);
    x.worth(2);
  }

  /** From each rung up by 3 and to the foot by 9; 6 is the end. THE ANSWER is 5460 by 1. */
  private static void ladder(ChainSolves x) {
    for (int i = 0; i < 6; i++) arcs(x, i, 0, 9, i, i + 1, 3);
    for (int i = 0; i < 7; i++) x.reward(i, 30 * i - 90);
    x.steps(0, 64);
  }

  /** Rings of three and of four, that the ring of three may be left for. THE ANSWER is 1 by 4. */
  private static void stays(ChainSolves x) {
    arcs(x, 0, 1, 2, 1, 2, 2, 2, 0, 2, 2, 3, 1, 3, 4, 1, 4, 5, 1, 5, 6, 9, 6, 3, 9);
    for (int i = 0; i < 7; i++) x.reward(i, 100);
    x.share(0, 5);
  }

  private static void arcs(ChainSolves x, int... arcs) {
    for (int i = 0; i < arcs.length; i += 3) x.arc(arcs[i], arcs[i + 1], arcs[i + 2]);
  }

  private static void refused(int kase, int code, int promise, int... a) {
    String call = "case " + kase + ", promise " + promise + ": " + NAMES[promise] + java.util.Arrays.toString(a);
    ChainSolves x = make(kase);
    String due = picture(make(kase));
    for (int turn = 0; turn < 2; turn++) {
      int got = call(x, promise, a);
      if (got != code) { wrong++; System.out.println(call + " answered " + got + ", due is " + code); return; }
    }
    String left = picture(x);
    if (!left.equals(due)) { wrong++; System.out.println(call + " changed something: left " + left + ", due is " + due); }
  }

  private static int call(ChainSolves x, int promise, int[] a) {
    switch (promise) {
      case STATE: return x.state();
      case ARC: return x.arc(a[0], a[1], a[2]);
      case REWARD: return x.reward(a[0], a[1]);
      case PART: return x.part(a[0]);
      case CLOSED: return x.closed(a[0]);
      case PERIOD: return x.period(a[0]);
      case ALIKE: return x.alike(a[0]);
      case EVER: return x.ever(a[0], a[1]);
      case AGAIN: return x.again(a[0]);
      case BEFORE: return x.before(a[0], a[1], a[2]);
      case STEPS: return x.steps(a[0], a[1]);
      case VISITS: return x.visits(a[0], a[1]);
      case SHARE: return x.share(a[0], a[1]);
      case AFTER: return x.after(a[0], a[1], a[2]);
      case WORTH: return x.worth(a[0]);
      default: return x.told(a[0]);
    }
  }

  /** All that can be asked of the object: it is used up by that, since weights and rewards are told by changing them. */
  private static String picture(ChainSolves x) {
    StringBuilder seen = new StringBuilder();
    seen.append(x.upper()).append('/').append(x.lower());
    for (int what = 0; what <= 5; what++) seen.append(" told ").append(x.told(what));
    int states = x.told(0);
    for (int i = 0; i < states; i++) {
      seen.append(" state ").append(x.part(i)).append(' ').append(x.closed(i)).append(' ').append(x.period(i)).append(' ').append(x.alike(i));
    }
    for (int i = 0; i < states; i++) {
      seen.append(" row ").append(x.reward(i, 0));
      for (int j = 0; j < states; j++) seen.append(' ').append(x.arc(i, j, 0));
    }
    seen.append(" left ").append(x.told(1)).append(' ').append(x.told(2)).append(" next ").append(x.state());
    return seen.toString();
  }

  /** Promise 3: "-4." */
  private static void stateWithoutRoom() {
    refused(3, NO_ROOM, STATE);
    refused(4, NO_ROOM, STATE);
  }

  /** "-1" of the promises 4 to 17, in each place where a state is told. */
  private static void unknownStates(int kase, int s) {
    for (int promise : new int[] {PART, CLOSED, PERIOD, ALIKE, AGAIN, WORTH}) refused(kase, UNKNOWN, promise, s);
    for (int promise : new int[] {EVER, VISITS, SHARE}) {
      refused(kase, UNKNOWN, promise, s, 0);
      refused(kase, UNKNOWN, promise, 0, s);
      refused(kase, UNKNOWN, promise, s, s);
    }
    for (int promise : new int[] {ARC, AFTER}) {
      refused(kase, UNKNOWN, promise, s, 0, 1);
      refused(kase, UNKNOWN, promise, 0, s, 1);
      refused(kase, UNKNOWN, promise, s, s, 0);
    }
    refused(kase, UNKNOWN, REWARD, s, 1);
    refused(kase, UNKNOWN, BEFORE, s, 0, 1);
    refused(kase, UNKNOWN, BEFORE, 0, s, 0);
    refused(kase, UNKNOWN, BEFORE, 0, 0, s);
    refused(kase, UNKNOWN, STEPS, s, 0);
    refused(kase, UNKNOWN, STEPS, s, 1);
  }

  /** Promise 4: "-2 the WEIGHT" */
  private static void arcOutside() {
    for (int weight : OUT_OF_WEIGHT) {
      refused(1, OUTSIDE, ARC, 0, 0, weight);
      refused(2, OUTSIDE, ARC, 1, 2, weight);
      refused(2, OUTSIDE, ARC, 4, 4, weight);
      refused(3, OUTSIDE, ARC, 6, 0, weight);
    }
  }

  /** Promise 4: "-2 .. or the TOTAL would be above 12" */
  private static void arcAboveTotal() {
    for (int i = 0; i < 6; i++) {
      for (int j = 1; j < 7; j++) if (j != i + 1) refused(3, OUTSIDE, ARC, i, j, 1);
      refused(3, OUTSIDE, ARC, i, i + 1, 4);
      refused(3, OUTSIDE, ARC, i, i + 1, 9);
    }
    refused(2, OUTSIDE, ARC, 4, 0, 8);
    refused(2, OUTSIDE, ARC, 4, 0, 9);
    refused(4, OUTSIDE, ARC, 5, 5, 4);
  }

  /** Promise 5: "-2." */
  private static void rewardOutside() {
    for (int v : OUT_OF_REWARD) {
      refused(1, OUTSIDE, REWARD, 0, v);
      refused(2, OUTSIDE, REWARD, 4, v);
      refused(3, OUTSIDE, REWARD, 6, v);
    }
  }

  /** Promise 12: "-3 a and b are one" */
  private static void beforeOfOne() {
    refused(1, NOT_SO, BEFORE, 0, 0, 0);
    for (int from = 0; from < 5; from++) for (int a = 0; a < 5; a++) refused(2, NOT_SO, BEFORE, from, a, a);
    refused(3, NOT_SO, BEFORE, 0, 6, 6);
    refused(3, NOT_SO, BEFORE, 6, 6, 6);
  }

  /** Promise 13: "-1 (also bits of STATES that there are not)" */
  private static void stepsOfUnknownBits() {
    int[] states = {0, 1, 5, 7, 7};
    for (int kase = 1; kase < 5; kase++) {
      int all = (1 << states[kase]) - 1;
      for (int bit = states[kase]; bit < 32; bit++) {
        refused(kase, UNKNOWN, STEPS, 0, 1 << bit);
        refused(kase, UNKNOWN, STEPS, 0, 1 << bit | 1);
        refused(kase, UNKNOWN, STEPS, states[kase] - 1, 1 << bit | all);
      }
      refused(kase, UNKNOWN, STEPS, 0, -1);
      refused(kase, UNKNOWN, STEPS, 0, ~all);
      refused(kase, UNKNOWN, STEPS, 0, Integer.MAX_VALUE);
    }
    refused(0, UNKNOWN, STEPS, 0, 0);
  }

  /** Promise 13: "-3 the odds that it ever is are below 1" */
  private static void stepsNotSure() {
    refused(1, NOT_SO, STEPS, 0, 0);
    for (int from = 0; from < 5; from++) refused(2, NOT_SO, STEPS, from, 0);
    refused(2, NOT_SO, STEPS, 1, 0b01000);
    refused(2, NOT_SO, STEPS, 1, 0b00001);
    refused(2, NOT_SO, STEPS, 1, 0b11000);
    refused(2, NOT_SO, STEPS, 1, 0b00100);
    refused(2, NOT_SO, STEPS, 0, 0b11110);
    refused(2, NOT_SO, STEPS, 4, 0b01111);
    refused(3, NOT_SO, STEPS, 6, 0b0111111);
    refused(4, NOT_SO, STEPS, 3, 0b0000111);
    refused(4, NOT_SO, STEPS, 0, 0);
  }

  /** Promise 14: "-3 endlessly many" */
  private static void visitsEndless() {
    refused(1, NOT_SO, VISITS, 0, 0);
    for (int from = 0; from < 3; from++) refused(2, NOT_SO, VISITS, from, 0);
    for (int from = 1; from < 4; from++) refused(2, NOT_SO, VISITS, from, 3);
    refused(2, NOT_SO, VISITS, 4, 4);
    for (int from = 0; from < 7; from++) {
      refused(3, NOT_SO, VISITS, from, 6);
      for (int to = 3; to < 7; to++) refused(4, NOT_SO, VISITS, from, to);
    }
  }

  /** Promise 16: "n STEPS (0 .. 4). .. -2." */
  private static void afterOutside() {
    for (int n : OUT_OF_STEPS) {
      refused(1, OUTSIDE, AFTER, 0, 0, n);
      refused(2, OUTSIDE, AFTER, 1, 2, n);
      refused(3, OUTSIDE, AFTER, 0, 6, n);
    }
  }

  /** Promise 17: "-3 the odds that it ever is in one are below 1" */
  private static void worthNotSure() {
    refused(2, NOT_SO, WORTH, 4);
    for (int from = 0; from < 7; from++) refused(4, NOT_SO, WORTH, from);
    // An end may be come to, but so may a state that only stays.
    ChainSolves x = make(2);
    x.arc(2, 4, 1);
    long up = x.upper();
    long low = x.lower();
    for (int from = 1; from < 3; from++) {
      int got = x.worth(from);
      if (got != NOT_SO || x.upper() != up || x.lower() != low) { wrong++; System.out.println("promise 17: worth(" + from + ") is not sure, answered " + got); }
    }
  }

  /** Promise 20: "-2." */
  private static void toldOutside() {
    for (int what : OUT_OF_TOLD) for (int kase : CASES) refused(kase, OUTSIDE, TOLD, what);
  }

  /** "Of those that a call tells, in the order in which it tells them, the first that fits is answered" */
  private static void unknownAheadOfOthers() {
    for (int s : new int[] {-1, 5, 7, 32}) {
      refused(2, UNKNOWN, ARC, s, 0, 10);
      refused(2, UNKNOWN, ARC, 4, s, 9);
      refused(2, UNKNOWN, ARC, 4, s, -1);
      refused(2, UNKNOWN, REWARD, s, 101);
      refused(2, UNKNOWN, BEFORE, s, 1, 1);
      refused(2, UNKNOWN, BEFORE, 1, s, s);
      refused(2, UNKNOWN, STEPS, s, 0);
      refused(2, UNKNOWN, STEPS, 1, 0b101000);
      refused(2, UNKNOWN, VISITS, s, 0);
      refused(2, UNKNOWN, VISITS, 0, s);
      refused(2, UNKNOWN, AFTER, s, 0, 5);
      refused(2, UNKNOWN, AFTER, 0, s, -1);
      refused(2, UNKNOWN, WORTH, s);
    }
  }
}
