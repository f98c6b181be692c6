/** Each promise of the document: ordinary inputs, its edges, wrong inputs. */
public final class PromisesTest {
  private static final int NO_STATE = -1;
  private static final int OUTSIDE = -2;
  private static final int NOT_SO = -3;
  private static final int NO_ROOM = -4;
  private static final int[] UNKNOWN = {-1, 7, 31, 32, 64, Integer.MIN_VALUE, Integer.MAX_VALUE};

  private static int wrong = 0;
  private static int promise = 0;

  private static void due(String what, long got, long want) {
    if (got != want) { wrong++; System.out.println("promise " + promise + ": " + what + ": got " + got + ", due is " + want); }
  }

  private static void holds(String what, ChainSolves x, long up, long low) {
    due(what + ", upper", x.upper(), up);
    due(what + ", lower", x.lower(), low);
  }

  private static void told(String what, ChainSolves x, int got, long up, long low) {
    due(what, got, 1);
    holds(what, x, up, low);
  }

  /** States, and arcs as triples. */
  private static ChainSolves chain(int states, int... arcs) {
    ChainSolves x = new ChainSolves();
    for (int i = 0; i < states; i++) x.state();
    for (int i = 0; i < arcs.length; i += 3) x.arc(arcs[i], arcs[i + 1], arcs[i + 2]);
    return x;
  }

  /** 0 is the foot, 3 the one end; from 1 and 2 up or down by equal odds, 4 goes round for itself. */
  private static ChainSolves ruin() {
    return chain(5, 1, 0, 1, 1, 2, 1, 2, 1, 1, 2, 3, 1, 4, 4, 5);
  }

  public static void main(String[] args) {
    newObject();
    clear();
    state();
    arc();
    reward();
    part();
    closed();
    period();
    alike();
    ever();
    again();
    before();
    steps();
    visits();
    share();
    after();
    worth();
    upperAndLower();
    told();
    refusalsChangeNothing();
    greatMeans();
    System.out.println(wrong == 0 ? "all promises hold" : wrong + " answers are not as due");
    if (wrong != 0) System.exit(1);
  }

  private static void newObject() {
    promise = 1;
    ChainSolves x = new ChainSolves();
    for (int what = 0; what <= 5; what++) due("told(" + what + ")", x.told(what), 0);
    holds("at first", x, 0, 1);
    due("part(0)", x.part(0), NO_STATE);
    due("steps(0, 0)", x.steps(0, 0), NO_STATE);
    chain(3, 0, 1, 4);
    due("another object's states", x.told(0), 0);
  }

  private static void clear() {
    promise = 2;
    ChainSolves x = chain(7, 0, 1, 4, 1, 0, 3, 6, 6, 9);
    x.reward(0, 50);
    told("after(1, 1, 0)", x, x.after(1, 1, 0), 1, 1);
    x.clear();
    for (int what = 0; what <= 5; what++) due("told(" + what + ")", x.told(what), 0);
    holds("cleared", x, 0, 1);
    due("ever(0, 0)", x.ever(0, 0), NO_STATE);
    due("state()", x.state(), 0);
    due("state()", x.state(), 1);
    due("no weight is left", x.told(1), 0);
    due("both are ends", x.told(2), 2);
    due("the reward is 0", x.reward(0, 1), 100);
    due("the weight is 0", x.arc(0, 1, 9), 0);
    due("the total was 0", x.arc(0, 0, 3), 0);
    for (int i = 2; i < 7; i++) due("room for seven again", x.state(), i);
    x.clear();
    x.clear();
    due("cleared twice", x.told(0), 0);
  }

  private static void state() {
    promise = 3;
    ChainSolves x = new ChainSolves();
    for (int i = 0; i < 7; i++) {
      due("state()", x.state(), i);
      due("states", x.told(0), i + 1);
      due("ends", x.told(2), i + 1);
      due("reward", x.reward(i, 0), 100);
    }
    due("the eighth", x.state(), NO_ROOM);
    due("and again", x.state(), NO_ROOM);
    due("still seven", x.told(0), 7);
    due("part(7)", x.part(7), NO_STATE);
  }

  private static void arc() {
    promise = 4;
    ChainSolves x = chain(3);
    due("first", x.arc(0, 1, 9), 0);
    due("the same", x.arc(0, 1, 9), 9);
    due("less", x.arc(0, 1, 4), 9);
    due("one way alone", x.arc(1, 0, 1), 0);
    due("to itself", x.arc(0, 0, 8), 0);
    due("total above 12", x.arc(0, 2, 1), OUTSIDE);
    due("total above 12 by more of one", x.arc(0, 1, 5), OUTSIDE);
    due("nothing changed", x.arc(0, 1, 3), 4);
    due("total 12", x.arc(0, 2, 1), 0);
    due("0 fits a full total", x.arc(0, 2, 0), 1);
    due("another state's total", x.arc(2, 0, 9), 0);
    due("-1", x.arc(2, 1, -1), OUTSIDE);
    due("10", x.arc(2, 1, 10), OUTSIDE);
    due("great", x.arc(2, 1, Integer.MAX_VALUE), OUTSIDE);
    due("small", x.arc(2, 1, Integer.MIN_VALUE), OUTSIDE);
    due("still none", x.arc(2, 1, 0), 0);
    due("third", x.arc(3, 0, 1), NO_STATE);
    for (int s : UNKNOWN) {
      due("from " + s, x.arc(s, 0, 1), NO_STATE);
      due("to " + s, x.arc(0, s, 1), NO_STATE);
      due("unknown ahead of outside", x.arc(s, 0, 10), NO_STATE);
    }
  }

  private static void reward() {
    promise = 5;
    ChainSolves x = chain(2);
    due("at first 0", x.reward(0, 100), 100);
    due("was 100", x.reward(0, -100), 200);
    due("was -100", x.reward(0, 7), 0);
    due("101", x.reward(0, 101), OUTSIDE);
    due("-101", x.reward(0, -101), OUTSIDE);
    due("small", x.reward(0, Integer.MIN_VALUE), OUTSIDE);
    due("nothing changed", x.reward(0, 0), 107);
    due("the other one's", x.reward(1, 0), 100);
    for (int s : UNKNOWN) due("reward(" + s + ", 101)", x.reward(s, 101), NO_STATE);
    due("reward(2, 0)", x.reward(2, 0), NO_STATE);
  }

  private static void part() {
    promise = 6;
    ChainSolves x = chain(7, 5, 2, 1, 2, 4, 1, 4, 5, 1, 4, 6, 1, 0, 5, 1, 1, 1, 3);
    due("part(5)", x.part(5), 2);
    due("part(4)", x.part(4), 2);
    due("part(2)", x.part(2), 2);
    due("leads into it alone", x.part(0), 0);
    due("is led to alone", x.part(6), 6);
    due("for itself", x.part(1), 1);
    due("an end", x.part(3), 3);
    x.arc(6, 0, 9);
    due("now all of it", x.part(5), 0);
    for (int s : UNKNOWN) due("part(" + s + ")", x.part(s), NO_STATE);
  }

  private static void closed() {
    promise = 7;
    ChainSolves x = chain(5, 0, 1, 1, 1, 0, 1, 1, 2, 1, 2, 2, 4);
    due("left by 1", x.closed(0), 0);
    due("left by itself", x.closed(1), 0);
    due("goes round", x.closed(2), 1);
    due("an end", x.closed(3), 1);
    x.arc(1, 2, 0);
    due("no longer left", x.closed(0), 1);
    due("nor by 1", x.closed(1), 1);
    x.arc(3, 4, 1);
    due("an end no more", x.closed(3), 0);
    due("closed(5)", x.closed(5), NO_STATE);
    for (int s : UNKNOWN) due("closed(" + s + ")", x.closed(s), NO_STATE);
  }

  private static void period() {
    promise = 8;
    ChainSolves x = chain(7, 0, 1, 1, 1, 2, 1, 2, 3, 1, 3, 4, 1, 4, 5, 1, 5, 6, 1);
    due("no way back", x.period(0), 0);
    due("an end", x.period(6), 1);
    x.arc(6, 0, 2);
    due("ring of seven", x.period(3), 7);
    x.arc(5, 0, 2);
    due("rings of seven and six", x.period(3), 1);
    due("also where both go by", x.period(6), 1);
    x.arc(6, 0, 0);
    due("ring of six", x.period(0), 6);
    x.arc(3, 0, 1);
    due("rings of six and four", x.period(5), 2);
    x.arc(2, 0, 1);
    due("and of three", x.period(5), 1);
    x = chain(3, 0, 1, 1, 1, 2, 1, 2, 1, 1);
    due("leads to a ring, in none", x.period(0), 0);
    due("the ring", x.period(1), 2);
    x.arc(2, 2, 1);
    due("a stay in the other one", x.period(1), 1);
    due("period(3)", x.period(3), NO_STATE);
    for (int s : UNKNOWN) due("period(" + s + ")", x.period(s), NO_STATE);
  }

  private static void alike() {
    promise = 9;
    ChainSolves x = chain(6, 2, 1, 1, 3, 1, 4, 4, 4, 2);
    due("ends", x.alike(5), 0);
    due("the least", x.alike(0), 0);
    due("all into the ends", x.alike(3), 2);
    due("round for itself is no end", x.alike(4), 4);
    due("groups", x.told(5), 3);
    x.arc(5, 5, 1);
    due("rings alike", x.alike(5), 4);
    x.reward(5, -1);
    due("rewards differ", x.alike(5), 5);
    x.reward(4, -1);
    due("rewards the same", x.alike(5), 4);
    // Odds count, not weights: 1 of 3 is 2 of 6.
    x = chain(5, 0, 2, 1, 0, 3, 2, 1, 2, 2, 1, 4, 4);
    x.reward(2, 9);
    due("1:2 and 2:4", x.alike(1), 0);
    x.arc(1, 4, 5);
    due("1:2 and 2:5", x.alike(1), 1);
    // Told apart only behind many steps.
    x = chain(7, 0, 1, 1, 1, 2, 1, 2, 3, 1, 3, 4, 1, 4, 5, 1, 5, 6, 1);
    for (int i = 0; i < 7; i++) due("a row", x.alike(i), i);
    x.arc(6, 0, 1);
    for (int i = 0; i < 7; i++) due("a ring", x.alike(i), 0);
    due("one group", x.told(5), 1);
    x.reward(6, 1);
    for (int i = 0; i < 7; i++) due("a marked ring", x.alike(i), i);
    due("alike(3)", chain(3).alike(3), NO_STATE);
    for (int s : UNKNOWN) due("alike(" + s + ")", x.alike(s), NO_STATE);
  }

  private static void ever() {
    promise = 10;
    ChainSolves x = ruin();
    told("up from 1", x, x.ever(1, 3), 1, 3);
    told("up from 2", x, x.ever(2, 3), 2, 3);
    told("itself", x, x.ever(2, 2), 1, 1);
    told("itself, an end", x, x.ever(0, 0), 1, 1);
    told("from an end", x, x.ever(0, 3), 0, 1);
    told("from one for itself", x, x.ever(4, 3), 0, 1);
    told("to one for itself", x, x.ever(1, 4), 0, 1);
    told("1 from 2", x, x.ever(2, 1), 1, 2);
    x = chain(3, 0, 0, 9, 0, 1, 1, 1, 0, 2, 1, 2, 1);
    told("for sure, in the end", x, x.ever(0, 2), 1, 1);
    due("ever(0, 3)", x.ever(0, 3), NO_STATE);
    due("ever(3, 0)", x.ever(3, 0), NO_STATE);
    due("ever(3, 3)", x.ever(3, 3), NO_STATE);
    for (int s : UNKNOWN) due("ever(" + s + ", 0)", x.ever(s, 0), NO_STATE);
  }

  private static void again() {
    promise = 11;
    ChainSolves x = ruin();
    told("1", x, x.again(1), 1, 4);
    told("an end", x, x.again(0), 1, 1);
    told("for itself", x, x.again(4), 1, 1);
    x.arc(1, 1, 4);
    told("with a stay", x, x.again(1), 3, 4);
    x.arc(0, 1, 1);
    told("an end no more", x, x.again(0), 2, 3);
    told("still an end", x, x.again(3), 1, 1);
    x.arc(3, 4, 1);
    told("never back", x, x.again(3), 0, 1);
    due("again(5)", x.again(5), NO_STATE);
    for (int s : UNKNOWN) due("again(" + s + ")", x.again(s), NO_STATE);
  }

  private static void before() {
    promise = 12;
    ChainSolves x = ruin();
    told("3 ahead of 0", x, x.before(1, 3, 0), 1, 3);
    told("3 ahead of 1", x, x.before(2, 3, 1), 1, 2);
    told("3 ahead of 2, from 1", x, x.before(1, 3, 2), 0, 1);
    told("b is never met", x, x.before(1, 3, 4), 1, 3);
    told("from a", x, x.before(1, 1, 0), 1, 1);
    told("from b", x, x.before(1, 2, 1), 0, 1);
    told("from elsewhere", x, x.before(4, 1, 2), 0, 1);
    due("a and b are one", x.before(1, 2, 2), NOT_SO);
    due("also if it is from", x.before(2, 2, 2), NOT_SO);
    holds("nothing changed", x, 0, 1);
    // Through the ring 0, 1, 2 with two ways out: 1 leads to 3, 2 leads to 4.
    x = chain(5, 0, 1, 1, 1, 2, 2, 1, 3, 1, 2, 0, 1, 2, 4, 3);
    told("3 ahead of 4", x, x.before(0, 3, 4), 2, 5);
    told("4 ahead of 3", x, x.before(0, 4, 3), 3, 5);
    due("unknown ahead of not so", x.before(0, 5, 5), NO_STATE);
    due("unknown from ahead of not so", x.before(5, 1, 1), NO_STATE);
    for (int s : UNKNOWN) {
      due("before(" + s + ", 0, 1)", x.before(s, 0, 1), NO_STATE);
      due("before(0, " + s + ", 1)", x.before(0, s, 1), NO_STATE);
      due("before(0, 1, " + s + ")", x.before(0, 1, s), NO_STATE);
    }
  }

  private static void steps() {
    promise = 13;
    ChainSolves x = ruin();
    told("to either end", x, x.steps(1, 0b01001), 2, 1);
    told("to either neighbour", x, x.steps(1, 0b00101), 1, 1);
    told("in it", x, x.steps(1, 0b00010), 0, 1);
    told("an end in it", x, x.steps(0, 0b00001), 0, 1);
    told("with one never met", x, x.steps(2, 0b11001), 2, 1);
    due("to one end alone", x.steps(1, 0b01000), NOT_SO);
    due("to none", x.steps(1, 0), NOT_SO);
    due("from an end", x.steps(0, 0b01000), NOT_SO);
    holds("nothing changed", x, 2, 1);
    due("a bit above", x.steps(1, 0b100000), NO_STATE);
    due("a bit above beside others", x.steps(1, 0b101001), NO_STATE);
    due("the last bit", x.steps(1, Integer.MIN_VALUE), NO_STATE);
    due("all bits", x.steps(1, -1), NO_STATE);
    due("all that there are", x.steps(1, 0b11111), 1);
    for (int s : UNKNOWN) due("steps(" + s + ", 1)", x.steps(s, 1), NO_STATE);
    x = chain(3, 0, 0, 2, 0, 1, 1, 1, 0, 1, 1, 2, 2, 2, 0, 1);
    told("with stays and ways back", x, x.steps(0, 0b100), 6, 1);
    told("from nearer by", x, x.steps(1, 0b100), 3, 1);
    x.arc(0, 0, 9);
    x.arc(0, 1, 2);
    told("a fraction", x, x.steps(0, 0b010), 11, 2);
    // What lies beyond the set does not matter.
    x = chain(4, 0, 1, 1, 1, 2, 1, 1, 3, 1);
    told("ways part behind it", x, x.steps(0, 0b0010), 1, 1);
  }

  private static void visits() {
    promise = 14;
    ChainSolves x = ruin();
    told("1 from 1", x, x.visits(1, 1), 4, 3);
    told("2 from 1", x, x.visits(1, 2), 2, 3);
    told("not to be come to", x, x.visits(1, 4), 0, 1);
    told("from an end", x, x.visits(0, 3), 0, 1);
    told("from one for itself", x, x.visits(4, 1), 0, 1);
    due("an end", x.visits(1, 0), NOT_SO);
    due("an end from itself", x.visits(0, 0), NOT_SO);
    due("for itself", x.visits(4, 4), NOT_SO);
    holds("nothing changed", x, 0, 1);
    x = chain(3, 0, 0, 9, 0, 1, 3, 1, 2, 1);
    told("with stays", x, x.visits(0, 0), 4, 1);
    told("once", x, x.visits(0, 1), 1, 1);
    told("never back", x, x.visits(1, 0), 0, 1);
    due("visits(0, 3)", x.visits(0, 3), NO_STATE);
    for (int s : UNKNOWN) due("visits(" + s + ", 0)", x.visits(s, 0), NO_STATE);
  }

  private static void share() {
    promise = 15;
    ChainSolves x = ruin();
    told("an end", x, x.share(1, 3), 1, 3);
    told("the other one", x, x.share(1, 0), 2, 3);
    told("left in the end", x, x.share(1, 2), 0, 1);
    told("not to be come to", x, x.share(1, 4), 0, 1);
    told("for itself", x, x.share(4, 4), 1, 1);
    told("an end from itself", x, x.share(0, 0), 1, 1);
    told("from an end", x, x.share(0, 3), 0, 1);
    // 0 leads by 1:2 to an end or to the part 2, 3 that is in 2 for 3 of 4 steps.
    x = chain(4, 0, 1, 1, 0, 2, 2, 2, 2, 8, 2, 3, 4, 3, 2, 7);
    told("part of a part", x, x.share(0, 2), 1, 2);
    told("part of a part", x, x.share(0, 3), 1, 6);
    told("within it", x, x.share(3, 3), 1, 4);
    // A ring has shares though it has no odds that settle.
    x = chain(2, 0, 1, 5, 1, 0, 1);
    told("a ring of two", x, x.share(0, 1), 1, 2);
    due("share(0, 2)", x.share(0, 2), NO_STATE);
    due("share(2, 0)", x.share(2, 0), NO_STATE);
    for (int s : UNKNOWN) due("share(" + s + ", 0)", x.share(s, 0), NO_STATE);
  }

  private static void after() {
    promise = 16;
    ChainSolves x = ruin();
    told("0 steps, there", x, x.after(1, 1, 0), 1, 1);
    told("0 steps, not there", x, x.after(1, 2, 0), 0, 1);
    told("1 step", x, x.after(1, 2, 1), 1, 2);
    told("2 steps", x, x.after(1, 3, 2), 1, 4);
    told("3 steps, an end holds", x, x.after(1, 0, 3), 5, 8);
    told("4 steps", x, x.after(1, 1, 4), 1, 16);
    told("an end", x, x.after(3, 3, 4), 1, 1);
    due("5", x.after(1, 1, 5), OUTSIDE);
    due("-1", x.after(1, 1, -1), OUTSIDE);
    due("small", x.after(1, 1, Integer.MIN_VALUE), OUTSIDE);
    holds("nothing changed", x, 1, 1);
    due("unknown ahead of outside", x.after(5, 0, 5), NO_STATE);
    due("unknown ahead of outside", x.after(0, 5, -1), NO_STATE);
    for (int s : UNKNOWN) due("after(" + s + ", 0, 1)", x.after(s, 0, 1), NO_STATE);
    x = chain(5, 0, 1, 5, 0, 4, 6, 1, 2, 7, 1, 4, 4, 2, 3, 8, 2, 4, 1, 3, 0, 9, 3, 4, 1);
    told("four totals", x, x.after(0, 0, 4), 28, 121);
  }

  private static void worth() {
    promise = 17;
    ChainSolves x = ruin();
    x.reward(0, 100);
    x.reward(1, 10);
    x.reward(2, -7);
    x.reward(3, -100);
    x.reward(4, 50);
    told("without the end's own", x, x.worth(1), 26, 3);
    told("below 0", x, x.worth(2), -8, 3);
    told("an end", x, x.worth(0), 0, 1);
    due("never an end", x.worth(4), NOT_SO);
    x.arc(1, 4, 1);
    due("perhaps never", x.worth(2), NOT_SO);
    holds("nothing changed", x, 0, 1);
    due("worth(5)", x.worth(5), NO_STATE);
    for (int s : UNKNOWN) due("worth(" + s + ")", x.worth(s), NO_STATE);
    x = chain(2, 0, 0, 9, 0, 1, 3);
    x.reward(0, -100);
    told("as often as it is", x, x.worth(0), -400, 1);
    x.reward(0, 0);
    told("nothing", x, x.worth(0), 0, 1);
  }

  private static void upperAndLower() {
    promise = 18;
    ChainSolves x = ruin();
    x.ever(1, 3);
    due("upper()", x.upper(), 1);
    due("upper() again", x.upper(), 1);
    promise = 19;
    due("lower()", x.lower(), 3);
    due("lower() again", x.lower(), 3);
    // Calls that tell no answer leave it.
    x.arc(0, 1, 2);
    x.reward(0, 4);
    x.state();
    x.part(1);
    x.closed(1);
    x.period(1);
    x.alike(1);
    x.told(5);
    holds("other calls", x, 1, 3);
    told("0 is 0 by 1", x, x.ever(4, 1), 0, 1);
  }

  private static void told() {
    promise = 20;
    ChainSolves x = ruin();
    due("states", x.told(0), 5);
    due("weights", x.told(1), 5);
    due("ends", x.told(2), 2);
    due("parts", x.told(3), 4);
    due("closed parts", x.told(4), 3);
    due("groups", x.told(5), 3);
    x.arc(4, 4, 0);
    due("weights", x.told(1), 4);
    due("ends", x.told(2), 3);
    due("closed parts", x.told(4), 3);
    due("groups", x.told(5), 2);
    x.arc(0, 3, 1);
    x.arc(3, 4, 1);
    due("weights", x.told(1), 6);
    due("ends", x.told(2), 1);
    due("parts", x.told(3), 4);
    due("closed parts", x.told(4), 1);
    due("-1", x.told(-1), OUTSIDE);
    due("6", x.told(6), OUTSIDE);
    due("small", x.told(Integer.MIN_VALUE), OUTSIDE);
    due("great", x.told(Integer.MAX_VALUE), OUTSIDE);
  }

  private static void refusalsChangeNothing() {
    promise = 0;
    ChainSolves x = ruin();
    x.steps(1, 0b01001);
    x.ever(9, 0);
    x.again(-1);
    x.before(1, 2, 2);
    x.steps(1, 0b01000);
    x.visits(1, 0);
    x.share(5, 5);
    x.after(1, 1, 5);
    x.worth(4);
    x.arc(4, 4, 10);
    x.reward(4, 101);
    holds("refused", x, 2, 1);
    due("weight", x.arc(4, 4, 5), 5);
    due("reward", x.reward(4, 0), 100);
  }

  /** The ladder that falls to its foot but for 1 of 12: numbers as great as they come. */
  private static void greatMeans() {
    promise = 0;
    ChainSolves x = chain(7);
    for (int i = 0; i < 6; i++) {
      x.arc(i, 0, 9);
      x.arc(i, i + 1, 1);
      x.arc(i, i == 0 ? 2 : 1, 2);
    }
    // State 0 has 9 to itself, 1 to 1, 2 to 2; state 1 has 9 to 0, 1 to 2, 2 to itself.
    x.reward(0, 100);
    x.reward(5, -100);
    due("worth(0)", x.worth(0), 1);
    due("fits", x.upper() > 1000000 && x.lower() > 0 ? 1 : 0, 1);
    long up = x.upper();
    long low = x.lower();
    due("visits(0, 0)", x.visits(0, 0), 1);
    long often = x.upper();
    long oftenLow = x.lower();
    due("visits(0, 5)", x.visits(0, 5), 1);
    // worth = 100 * visits to 0 - 100 * visits to 5
    java.math.BigInteger left = big(up).multiply(big(oftenLow)).multiply(big(x.lower()));
    java.math.BigInteger right = big(often).multiply(big(x.lower())).subtract(big(x.upper()).multiply(big(oftenLow)))
        .multiply(big(100)).multiply(big(low));
    due("worth by visits", left.equals(right) ? 1 : 0, 1);
  }

  private static java.math.BigInteger big(long v) {
    return java.math.BigInteger.valueOf(v);
  }
}
