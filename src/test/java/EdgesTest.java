/**
 * Each sentence of the document that names a boundary, with a test of its own:
 * the sentence stands over its test. What calls refuse is in RefusalsTest.
 */
public final class EdgesTest {
  private static final int MOST = 7;

  private static int wrong = 0;
  private static String test = "";

  private static void due(String what, long got, long want) {
    if (got != want) { wrong++; System.out.println(test + ": " + what + " answered " + got + ", due is " + want); }
  }

  /** A call that tells an ANSWER gave 1, and THE ANSWER is this one. */
  private static void told(String what, ChainSolves x, int got, long up, long low) {
    due(what, got, 1);
    due(what + ", upper()", x.upper(), up);
    due(what + ", lower()", x.lower(), low);
  }

  /** States, and arcs as triples from, to, weight. */
  private static ChainSolves chain(int states, int... arcs) {
    ChainSolves x = new ChainSolves();
    for (int i = 0; i < states; i++) x.state();
    arcs(x, arcs);
    return x;
  }

  private static void arcs(ChainSolves x, int... arcs) {
    for (int i = 0; i < arcs.length; i += 3) x.arc(arcs[i], arcs[i + 1], arcs[i + 2]);
  }

  /** Each of the states leads to the next one, the last one to the first. */
  private static ChainSolves ring(int states) {
    ChainSolves x = chain(states);
    for (int i = 0; i < states; i++) x.arc(i, (i + 1) % states, 1);
    return x;
  }

  /** 0 and 3 are ends; 1 and 2 lead to either side by equal odds. */
  private static ChainSolves ruin() {
    return chain(4, 1, 0, 1, 1, 2, 1, 2, 1, 1, 2, 3, 1);
  }

  public static void main(String[] args) {
    theWholeLife();
    terms();
    weightsAndTotals();
    theWalk();
    partsAndLikeness();
    theAnswer();
    statesComeAndGo();
    ringsAndParts();
    oddsOfMeeting();
    means();
    theLongRun();
    counts();
    System.out.println(wrong == 0 ? "all edges hold" : wrong + " answers are not as due");
    if (wrong != 0) System.exit(1);
  }

  private static void theWholeLife() { the512thCall(); }
  private static void terms() { sevenStates(); numbersFromZero(); rewardsFromEndToEnd(); rewardsAtFirst(); }
  private static void weightsAndTotals() {
    weightsFromEndToEnd(); weightsAtFirst(); weightToItself(); twelveByTwo(); twelveByMany(); twelveByChange();
    totalsOfEachState(); totalsFromNotTo(); totalZeroIsEnd(); endNoMoreAndAgain(); stayIsNoEnd();
  }
  private static void theWalk() { oddsOfWeightByTotal(); endLeadsToItself(); behindNoStep(); }
  private static void partsAndLikeness() {
    comesToItself(); partNeedsBothWays(); partThroughOthers(); closedUnlessLeft(); endsAreAlikeToEnds();
    rewardsMustBeTheSame(); oddsToGroupsNotStates(); oddsNotWeights(); coarsest(); toldApartLate(); staysCountForGroups();
  }
  private static void theAnswer() {
    answerAtFirst(); answerInLowestTerms(); answerBelowZero(); zeroIsZeroByOne(); eachAnswerTakesThePlace();
    otherCallsLeaveTheAnswer(); readingLeavesTheAnswer(); upperBeyondInt(); lowerBeyondInt();
  }
  private static void statesComeAndGo() {
    newObjectIsEmpty(); objectsAreApart(); clearedOfAll(); clearedWhenEmpty(); clearedWhenFull(); newStateIsBlank(); newStateLeavesOthers();
    arcTellsWhatWas(); rewardTellsWhatWasAnd100();
  }
  private static void ringsAndParts() {
    partIsTheLeast(); closedIsOneOrZero(); periodOfNone(); periodAboveNoStep(); periodOfAnEnd(); periodOfEachRing();
    periodIsNoShortestRing(); periodByRingsElsewhere(); periodBeforeARing(); alikeIsTheLeast();
  }
  private static void oddsOfMeeting() {
    everItself(); everNot(); everForSureByTurns(); everInPart(); againAtAnEnd(); againNever(); againForSure(); againPerhaps();
    beforeFromA(); beforeFromB(); beforeOnlyThroughB(); beforeWithoutB(); beforeNeither(); beforeComesBack();
  }
  private static void means() {
    stepsInTheSet(); stepsToWhole(); stepsFirstTime(); stepsForSureByTurns(); stepsPastTheSet(); stepsToTheHighestState();
    visitsCountTheFirst(); visitsNone(); visitsNoneThoughEndless(); visitsByTurns();
    worthOfAnEnd(); worthLeavesOutTheEnd(); worthCountsTheFirst(); worthAsOften(); worthBelowZero(); worthEvensOut(); worthForSureByTurns();
  }
  private static void theLongRun() {
    shareOfAnEnd(); shareOfWhatIsLeft(); shareOfARing(); shareOfSeveralParts(); shareAddsUp(); shareNotThere();
    afterNoStep(); afterFour(); afterAddsUp();
  }
  private static void counts() { toldOfNothing(); toldOfStates(); toldOfWeights(); toldOfEnds(); toldOfParts(); toldOfClosed(); toldOfGroups(); }

  // What it is

  /** "An object is used for at most 512 calls after it has been made" */
  private static void the512thCall() {
    test = "the 512th call";
    ChainSolves x = new ChainSolves();
    int calls = 0;
    for (int i = 0; i < MOST; i++, calls++) x.state();
    for (; calls < 508; calls++) due("call " + calls, x.arc(0, 1, calls % 9 + 1), calls == 7 ? 0 : (calls - 1) % 9 + 1);
    due("call 509", x.arc(0, 2, 3), 0);
    due("call 510", x.ever(0, 2), 1);
    due("call 511", x.upper(), 3);
    due("call 512", x.lower(), 7);
  }

  // Terms

  /** "STATES have numbers from 0, 7 at most" */
  private static void sevenStates() {
    test = "seven states at most";
    ChainSolves x = new ChainSolves();
    for (int i = 0; i < MOST; i++) {
      due("told(0)", x.told(0), i);
      due("part(" + i + ") ahead of it", x.part(i), -1);
      due("state()", x.state(), i);
      due("part(" + i + ")", x.part(i), i);
    }
    due("state() of the eighth", x.state(), -4);
    due("part(7)", x.part(MOST), -1);
    due("told(0)", x.told(0), MOST);
  }

  /** "STATES have numbers from 0" */
  private static void numbersFromZero() {
    test = "numbers from 0";
    ChainSolves x = new ChainSolves();
    due("part(0)", x.part(0), -1);
    due("state()", x.state(), 0);
    due("part(0)", x.part(0), 0);
    due("part(1)", x.part(1), -1);
  }

  /** "a REWARD (-100 .. 100" */
  private static void rewardsFromEndToEnd() {
    test = "rewards -100 .. 100";
    ChainSolves x = chain(1);
    due("reward(0, -100)", x.reward(0, -100), 100);
    for (int v = -99; v <= 100; v++) due("reward(0, " + v + ")", x.reward(0, v), v + 99);
    due("reward(0, 101)", x.reward(0, 101), -2);
    due("reward(0, 100)", x.reward(0, 100), 200);
    x.reward(0, -100);
    due("reward(0, -101)", x.reward(0, -101), -2);
    due("reward(0, 0)", x.reward(0, 0), 0);
  }

  /** "; 0 at first)" of a REWARD */
  private static void rewardsAtFirst() {
    test = "rewards are 0 at first";
    ChainSolves x = chain(MOST);
    for (int i = 0; i < MOST; i++) due("reward(" + i + ", 100)", x.reward(i, 100), 100);
  }

  /** "a WEIGHT (0 .. 9" */
  private static void weightsFromEndToEnd() {
    test = "weights 0 .. 9";
    ChainSolves x = chain(2);
    for (int v = 1; v <= 9; v++) due("arc(0, 1, " + v + ")", x.arc(0, 1, v), v - 1);
    due("arc(0, 1, 10)", x.arc(0, 1, 10), -2);
    due("arc(0, 1, 0)", x.arc(0, 1, 0), 9);
    due("arc(0, 1, -1)", x.arc(0, 1, -1), -2);
    due("arc(0, 1, 0)", x.arc(0, 1, 0), 0);
  }

  /** "0, none, at first" of a WEIGHT */
  private static void weightsAtFirst() {
    test = "weights are none at first";
    ChainSolves x = chain(MOST);
    due("told(1)", x.told(1), 0);
    for (int i = 0; i < MOST; i++) for (int j = 0; j < MOST; j++) due("arc(" + i + ", " + j + ", 1)", x.arc(i, j, 1), 0);
    due("told(1)", x.told(1), 49);
  }

  /** "From a STATE to a STATE (perhaps itself)" */
  private static void weightToItself() {
    test = "a weight to itself";
    ChainSolves x = chain(MOST);
    for (int i = 0; i < MOST; i++) {
      due("arc(i, i, 9)", x.arc(i, i, 9), 0);
      due("arc(i, i, 2)", x.arc(i, i, 2), 9);
    }
    due("told(1)", x.told(1), MOST);
  }

  /** "the TOTAL of a STATE is the sum of those from it, 12 at most" */
  private static void twelveByTwo() {
    test = "a total of 12 by two";
    ChainSolves x = chain(3, 0, 1, 9);
    due("arc(0, 2, 4)", x.arc(0, 2, 4), -2);
    due("arc(0, 2, 3)", x.arc(0, 2, 3), 0);
    due("arc(0, 0, 1)", x.arc(0, 0, 1), -2);
    due("arc(0, 0, 0)", x.arc(0, 0, 0), 0);
    told("after(0, 2, 1)", x, x.after(0, 2, 1), 1, 4);
  }

  /** "12 at most", with a weight to each state and to itself */
  private static void twelveByMany() {
    test = "a total of 12 by seven";
    ChainSolves x = chain(MOST);
    for (int j = 0; j < 6; j++) due("arc(6, " + j + ", 2)", x.arc(6, j, 2), 0);
    due("arc(6, 6, 1)", x.arc(6, 6, 1), -2);
    due("arc(6, 5, 1)", x.arc(6, 5, 1), 2);
    due("arc(6, 6, 2)", x.arc(6, 6, 2), -2);
    due("arc(6, 6, 1)", x.arc(6, 6, 1), 0);
    told("after(6, 6, 1)", x, x.after(6, 6, 1), 1, 12);
  }

  /** "12 at most": the weight that a new one takes the place of counts no more */
  private static void twelveByChange() {
    test = "a total of 12 by a change";
    ChainSolves x = chain(3, 0, 0, 4, 0, 1, 8);
    due("arc(0, 1, 8)", x.arc(0, 1, 8), 8);
    due("arc(0, 1, 9)", x.arc(0, 1, 9), -2);
    due("arc(0, 0, 5)", x.arc(0, 0, 5), -2);
    due("arc(0, 0, 3)", x.arc(0, 0, 3), 4);
    due("arc(0, 1, 9)", x.arc(0, 1, 9), 8);
    due("arc(0, 2, 1)", x.arc(0, 2, 1), -2);
    due("arc(0, 1, 0)", x.arc(0, 1, 0), 9);
    due("arc(0, 2, 9)", x.arc(0, 2, 9), 0);
  }

  /** "the TOTAL of a STATE": each has its own */
  private static void totalsOfEachState() {
    test = "each state's own total";
    ChainSolves x = chain(MOST);
    for (int i = 0; i < MOST; i++) {
      due("arc(i, 0, 9)", x.arc(i, 0, 9), 0);
      due("arc(i, 1, 3)", x.arc(i, 1, 3), 0);
      due("arc(i, 2, 1)", x.arc(i, 2, 1), -2);
    }
  }

  /** "the sum of those from it": those to it do not count */
  private static void totalsFromNotTo() {
    test = "weights to a state are not in its total";
    ChainSolves x = chain(MOST);
    for (int i = 0; i < MOST - 1; i++) due("arc(" + i + ", 6, 9)", x.arc(i, 6, 9), 0);
    due("arc(6, 0, 9)", x.arc(6, 0, 9), 0);
    due("arc(6, 6, 3)", x.arc(6, 6, 3), 0);
    told("after(6, 6, 1)", x, x.after(6, 6, 1), 1, 4);
  }

  /** "A STATE with TOTAL 0 is an END." */
  private static void totalZeroIsEnd() {
    test = "total 0 is an end";
    ChainSolves x = chain(2, 0, 1, 1);
    due("told(2)", x.told(2), 1);
    told("worth(1)", x, x.worth(1), 0, 1);
    due("alike(1)", x.alike(1), 1);
  }

  /** "A STATE with TOTAL 0 is an END", also one that was none in between */
  private static void endNoMoreAndAgain() {
    test = "an end again";
    ChainSolves x = chain(2, 0, 0, 3, 0, 1, 4, 1, 0, 2);
    due("told(2)", x.told(2), 0);
    due("worth(0)", x.worth(0), -3);
    x.arc(1, 0, 0);
    due("told(2)", x.told(2), 1);
    due("worth(0)", x.worth(0), 1);
    x.arc(0, 0, 0);
    due("told(2)", x.told(2), 1);
    x.arc(0, 1, 0);
    due("told(2)", x.told(2), 2);
    told("again(0)", x, x.again(0), 1, 1);
  }

  /** "A STATE with TOTAL 0 is an END": one that only stays has a total */
  private static void stayIsNoEnd() {
    test = "a state that stays is no end";
    ChainSolves x = chain(2, 0, 0, 1);
    due("told(2)", x.told(2), 1);
    due("worth(0)", x.worth(0), -3);
    due("alike(1)", x.alike(1), 1);
    told("share(0, 0)", x, x.share(0, 0), 1, 1);
  }

  /** "with odds of the WEIGHT by the TOTAL" */
  private static void oddsOfWeightByTotal() {
    test = "odds of weight by total";
    ChainSolves x = chain(4, 0, 0, 5, 0, 1, 4, 0, 2, 3);
    told("stays", x, x.after(0, 0, 1), 5, 12);
    told("to 1", x, x.after(0, 1, 1), 1, 3);
    told("to 2", x, x.after(0, 2, 1), 1, 4);
    told("to 3", x, x.after(0, 3, 1), 0, 1);
    x = chain(2, 0, 1, 1);
    told("the only one", x, x.after(0, 1, 1), 1, 1);
  }

  /** "from an END each STEP leads to it again" */
  private static void endLeadsToItself() {
    test = "an end leads to itself";
    ChainSolves x = chain(2);
    for (int n = 0; n <= 4; n++) {
      told("after(0, 0, " + n + ")", x, x.after(0, 0, n), 1, 1);
      told("after(0, 1, " + n + ")", x, x.after(0, 1, n), 0, 1);
    }
  }

  /** "It is in its first STATE behind 0 STEPS." */
  private static void behindNoStep() {
    test = "in its first state behind 0 steps";
    ChainSolves x = ring(MOST);
    for (int i = 0; i < MOST; i++) {
      told("after(i, i, 0)", x, x.after(i, i, 0), 1, 1);
      told("after(i, i + 1, 0)", x, x.after(i, (i + 1) % MOST, 0), 0, 1);
      told("steps(i, i)", x, x.steps(i, 1 << i), 0, 1);
    }
  }

  /** "(from itself always)" */
  private static void comesToItself() {
    test = "comes to itself always";
    ChainSolves x = chain(2, 0, 1, 1);
    due("part(0)", x.part(0), 0);
    told("ever(0, 0)", x, x.ever(0, 0), 1, 1);
    due("told(3)", x.told(3), 2);
  }

  /** "Two are in one PART if each can be COME TO from the other." */
  private static void partNeedsBothWays() {
    test = "a part needs both ways";
    ChainSolves x = chain(2, 0, 1, 9);
    due("part(1)", x.part(1), 1);
    x.arc(1, 0, 1);
    due("part(1)", x.part(1), 0);
    x.arc(0, 1, 0);
    due("part(1)", x.part(1), 1);
  }

  /** "can be COME TO": behind any number of steps */
  private static void partThroughOthers() {
    test = "a part through others";
    ChainSolves x = ring(MOST);
    for (int i = 0; i < MOST; i++) due("part(" + i + ")", x.part(i), 0);
    x.arc(6, 0, 0);
    for (int i = 0; i < MOST; i++) due("part(" + i + "), no ring", x.part(i), i);
    for (int i = MOST - 1; i > 0; i--) x.arc(i, i - 1, 1);
    for (int i = 0; i < MOST; i++) due("part(" + i + "), to and fro", x.part(i), 0);
  }

  /** "A PART is CLOSED if no STATE beyond it can be COME TO from it." */
  private static void closedUnlessLeft() {
    test = "closed unless it is left";
    ChainSolves x = ring(6);
    x.state();
    x.arc(6, 0, 1);
    due("come to, not left", x.closed(0), 1);
    due("leads into it", x.closed(6), 0);
    x.arc(6, 0, 0);
    x.arc(5, 6, 1);
    for (int i = 0; i < 6; i++) due("left by 5 alone, " + i, x.closed(i), 0);
    due("the end", x.closed(6), 1);
    x.arc(6, 3, 1);
    for (int i = 0; i <= 6; i++) due("one part of all, " + i, x.closed(i), 1);
  }

  /** "of two in one group either both are ENDS or none is" */
  private static void endsAreAlikeToEnds() {
    test = "ends are alike to ends alone";
    ChainSolves x = chain(4, 1, 1, 7, 3, 3, 2);
    due("two ends", x.alike(2), 0);
    due("two that stay", x.alike(3), 1);
    due("told(5)", x.told(5), 2);
  }

  /** "their REWARDS are the same" */
  private static void rewardsMustBeTheSame() {
    test = "rewards of those that are alike";
    ChainSolves x = chain(2);
    x.reward(1, 1);
    due("0 and 1", x.alike(1), 1);
    x.reward(0, 1);
    due("1 and 1", x.alike(1), 0);
    x.reward(0, -1);
    due("-1 and 1", x.alike(1), 1);
    x.reward(0, 100);
    x.reward(1, -100);
    due("100 and -100", x.alike(1), 1);
    x.reward(1, 100);
    due("100 and 100", x.alike(1), 0);
  }

  /** "of each group the odds to be in it behind one STEP are the same" */
  private static void oddsToGroupsNotStates() {
    test = "odds to groups";
    // 0 leads to the two ends that are alike by 1 and 2, 1 leads to one of them by 3.
    ChainSolves x = chain(5, 0, 2, 1, 0, 3, 2, 0, 4, 3, 1, 3, 3, 1, 4, 3);
    x.reward(4, 5);
    due("alike(1)", x.alike(1), 0);
    x.reward(3, 5);
    due("alike(1), 2 is for itself", x.alike(1), 1);
  }

  /** "the odds .. are the same": weights and totals may differ */
  private static void oddsNotWeights() {
    test = "odds, not weights";
    ChainSolves x = chain(4, 0, 2, 1, 0, 3, 3, 1, 2, 3, 1, 3, 9);
    x.reward(3, 1);
    due("1 and 3 of 4, 3 and 9 of 12", x.alike(1), 0);
    x.arc(1, 3, 8);
    due("1 and 3 of 4, 3 and 8 of 11", x.alike(1), 1);
    x.arc(1, 2, 1);
    x.arc(1, 3, 4);
    due("the same weight, other odds", x.alike(1), 1);
  }

  /** "the coarsest parting" */
  private static void coarsest() {
    test = "the coarsest parting";
    for (int states = 1; states <= MOST; states++) {
      ChainSolves x = ring(states);
      for (int i = 0; i < states; i++) due("ring of " + states + ", alike(" + i + ")", x.alike(i), 0);
      due("told(5)", x.told(5), 1);
    }
    // Two rings apart are alike too; that they are two is not seen.
    ChainSolves x = chain(5, 0, 1, 1, 1, 0, 1, 2, 3, 9, 3, 4, 1, 4, 2, 5);
    due("told(5)", x.told(5), 1);
  }

  /** "such that .. of each group": what tells two apart may be seven states away */
  private static void toldApartLate() {
    test = "told apart late";
    for (int states = 2; states <= MOST; states++) {
      ChainSolves x = ring(states);
      x.reward(states - 1, -100);
      for (int i = 0; i < states; i++) due("ring of " + states + ", alike(" + i + ")", x.alike(i), i);
      x.reward(states - 1, 0);
      x.arc(0, 1 % states, 0);
      for (int i = 0; i < states; i++) due("row of " + states + ", alike(" + i + ")", x.alike(i), i);
      due("told(5)", x.told(5), states);
    }
  }

  /** "of each group": its own group too */
  private static void staysCountForGroups() {
    test = "odds to its own group";
    ChainSolves x = chain(4, 0, 0, 1, 0, 3, 1, 1, 1, 2, 1, 3, 1, 2, 0, 1, 2, 3, 1);
    due("stays by 1 of 2 and by 2 of 3", x.alike(1), 1);
    due("goes to its mate by 1 of 2", x.alike(2), 0);
  }

  /** "at first 0" of THE ANSWER */
  private static void answerAtFirst() {
    test = "the answer at first";
    ChainSolves x = new ChainSolves();
    due("lower()", x.lower(), 1);
    due("upper()", x.upper(), 0);
  }

  /** "a fraction in lowest terms" */
  private static void answerInLowestTerms() {
    test = "lowest terms";
    ChainSolves x = chain(3, 0, 1, 6, 0, 2, 6);
    told("after", x, x.after(0, 1, 1), 1, 2);
    told("ever", x, x.ever(0, 1), 1, 2);
    told("before", x, x.before(0, 1, 2), 1, 2);
    told("share", x, x.share(0, 1), 1, 2);
    arcs(x, 0, 1, 0, 0, 0, 6);
    told("again", x, x.again(0), 1, 2);
    told("steps", x, x.steps(0, 4), 2, 1);
    told("visits", x, x.visits(0, 0), 2, 1);
    x.reward(0, 50);
    told("worth", x, x.worth(0), 100, 1);
  }

  /** "its lower number above 0" */
  private static void answerBelowZero() {
    test = "an answer below 0";
    ChainSolves x = chain(2, 0, 0, 4, 0, 1, 3);
    x.reward(0, -1);
    told("worth(0)", x, x.worth(0), -7, 3);
    x.reward(0, -3);
    told("worth(0)", x, x.worth(0), -7, 1);
  }

  /** "(0 is 0 by 1)", after an answer that was not 0 */
  private static void zeroIsZeroByOne() {
    test = "0 is 0 by 1";
    ChainSolves x = ruin();
    x.ever(1, 3);
    told("ever", x, x.ever(0, 3), 0, 1);
    x.ever(1, 3);
    told("before", x, x.before(1, 3, 1), 0, 1);
    x.ever(1, 3);
    told("steps", x, x.steps(1, 2), 0, 1);
    x.ever(1, 3);
    told("visits", x, x.visits(0, 1), 0, 1);
    x.ever(1, 3);
    told("share", x, x.share(1, 2), 0, 1);
    x.ever(1, 3);
    told("after", x, x.after(1, 3, 1), 0, 1);
    x.ever(1, 3);
    told("worth", x, x.worth(1), 0, 1);
    x.arc(3, 1, 1);
    x.arc(0, 0, 1);
    x.arc(1, 2, 0);
    x.ever(2, 1);
    told("again", x, x.again(3), 0, 1);
  }

  /** "A call that tells "ANSWER" makes it THE ANSWER, and answers 1." */
  private static void eachAnswerTakesThePlace() {
    test = "each answer takes the place";
    ChainSolves x = ruin();
    x.reward(1, 3);
    told("ever", x, x.ever(1, 3), 1, 3);
    told("again", x, x.again(1), 1, 4);
    told("before", x, x.before(1, 2, 0), 1, 2);
    told("steps", x, x.steps(1, 9), 2, 1);
    told("visits", x, x.visits(1, 1), 4, 3);
    told("share", x, x.share(1, 0), 2, 3);
    told("after", x, x.after(1, 0, 3), 5, 8);
    told("worth", x, x.worth(1), 4, 1);
    told("ever", x, x.ever(2, 3), 2, 3);
  }

  /** "A call that tells "ANSWER" makes it THE ANSWER": no other call but clear does */
  private static void otherCallsLeaveTheAnswer() {
    test = "other calls leave the answer";
    ChainSolves x = ruin();
    x.share(1, 0);
    x.state();
    x.arc(1, 0, 9);
    x.reward(0, 7);
    x.part(1);
    x.closed(1);
    x.period(1);
    x.alike(1);
    for (int what = -1; what <= 6; what++) x.told(what);
    due("upper()", x.upper(), 2);
    due("lower()", x.lower(), 3);
  }

  /** "THE ANSWER'S upper number", "lower number": both may be asked for again, in any order */
  private static void readingLeavesTheAnswer() {
    test = "reading leaves the answer";
    ChainSolves x = ruin();
    x.share(1, 0);
    for (int i = 0; i < 3; i++) due("upper()", x.upper(), 2);
    for (int i = 0; i < 3; i++) due("lower()", x.lower(), 3);
    due("upper()", x.upper(), 2);
  }

  /** "long upper()": it may be beyond an int */
  private static void upperBeyondInt() {
    test = "an upper number beyond an int";
    ChainSolves x = manyTotals();
    due("after(0, 6, 4)", x.after(0, 6, 4), 1);
    due("upper()", x.upper(), 4284278237L);
  }

  /** "long lower()": it may be beyond an int */
  private static void lowerBeyondInt() {
    test = "a lower number beyond an int";
    ChainSolves x = manyTotals();
    due("after(0, 6, 4)", x.after(0, 6, 4), 1);
    due("lower()", x.lower(), 11687244800L);
  }

  private static ChainSolves manyTotals() {
    return chain(MOST, 0, 1, 5, 0, 6, 1, 0, 5, 4, 1, 2, 3, 1, 3, 8, 2, 6, 3, 2, 0, 8, 3, 6, 3, 3, 3, 5, 3, 1, 3,
        4, 4, 6, 4, 3, 1, 5, 6, 6, 5, 5, 1, 6, 6, 5, 6, 0, 3);
  }

  // Promises 1 to 5

  /** "ChainSolves(): No STATES." */
  private static void newObjectIsEmpty() {
    test = "promise 1: no states";
    ChainSolves x = new ChainSolves();
    due("told(0)", x.told(0), 0);
    for (int i = -1; i <= MOST; i++) due("part(" + i + ")", x.part(i), -1);
    due("state()", x.state(), 0);
  }

  /** "A new object": what is set in one is not in another */
  private static void objectsAreApart() {
    test = "promise 1: objects are apart";
    ChainSolves x = ruin();
    ChainSolves y = new ChainSolves();
    due("told(0)", y.told(0), 0);
    y.state();
    y.arc(0, 0, 5);
    y.ever(0, 0);
    y.reward(0, 9);
    y.clear();
    due("told(0)", x.told(0), 4);
    due("told(1)", x.told(1), 4);
    due("reward(0, 0)", x.reward(0, 0), 100);
    due("upper()", x.upper(), 0);
  }

  /** "All STATES go; THE ANSWER is 0." */
  private static void clearedOfAll() {
    test = "promise 2: all states go";
    ChainSolves x = ruin();
    x.reward(1, -50);
    x.share(1, 0);
    x.clear();
    due("upper()", x.upper(), 0);
    due("lower()", x.lower(), 1);
    for (int what = 0; what <= 5; what++) due("told(" + what + ")", x.told(what), 0);
    for (int i = 0; i < 4; i++) due("part(" + i + ")", x.part(i), -1);
    for (int i = 0; i < 4; i++) due("state()", x.state(), i);
    due("told(2)", x.told(2), 4);
    for (int i = 0; i < 4; i++) due("reward(i, 1)", x.reward(i, 1), 100);
    for (int i = 0; i < 4; i++) for (int j = 0; j < 4; j++) due("arc(" + i + ", " + j + ", 3)", x.arc(i, j, 3), 0);
  }

  /** "All STATES go", also if there are none */
  private static void clearedWhenEmpty() {
    test = "promise 2: clear of nothing";
    ChainSolves x = new ChainSolves();
    x.clear();
    due("told(0)", x.told(0), 0);
    due("lower()", x.lower(), 1);
    due("state()", x.state(), 0);
    x.ever(0, 0);
    x.clear();
    x.clear();
    due("upper()", x.upper(), 0);
    due("state()", x.state(), 0);
  }

  /** "All STATES go", also seven with full totals, and there is room for seven again */
  private static void clearedWhenFull() {
    test = "promise 2: clear of seven";
    ChainSolves x = chain(MOST);
    for (int round = 0; round < 3; round++) {
      for (int i = 0; i < MOST; i++) arcs(x, i, i, 9, i, (i + 1) % MOST, 3);
      due("state()", x.state(), -4);
      x.clear();
      for (int i = 0; i < MOST; i++) due("state()", x.state(), i);
      due("told(1)", x.told(1), 0);
      due("told(2)", x.told(2), MOST);
    }
    due("the total is 0 again, arc(0, 3, 9)", x.arc(0, 3, 9), 0);
    told("after(0, 3, 1)", x, x.after(0, 3, 1), 1, 1);
  }

  /** "A STATE, an END, with REWARD 0: its number." */
  private static void newStateIsBlank() {
    test = "promise 3: a new state";
    ChainSolves x = new ChainSolves();
    for (int i = 0; i < MOST; i++) {
      due("state()", x.state(), i);
      due("told(2)", x.told(2), 1);
      due("closed", x.closed(i), 1);
      due("reward(i, 5)", x.reward(i, 5), 100);
      x.arc(i, 0, 2);
    }
  }

  /** "A STATE": the others stay as they are */
  private static void newStateLeavesOthers() {
    test = "promise 3: other states stay";
    ChainSolves x = chain(1, 0, 0, 7);
    x.reward(0, 42);
    x.again(0);
    for (int i = 1; i < MOST; i++) x.state();
    due("arc(0, 0, 7)", x.arc(0, 0, 7), 7);
    due("reward(0, 42)", x.reward(0, 42), 142);
    due("told(1)", x.told(1), 1);
    due("upper()", x.upper(), 1);
  }

  /** "The WEIGHT from a STATE to a STATE: what it was." */
  private static void arcTellsWhatWas() {
    test = "promise 4: what it was";
    ChainSolves x = chain(2);
    due("arc(0, 1, 0)", x.arc(0, 1, 0), 0);
    due("arc(0, 1, 9)", x.arc(0, 1, 9), 0);
    due("arc(1, 0, 4)", x.arc(1, 0, 4), 0);
    due("arc(0, 1, 9)", x.arc(0, 1, 9), 9);
    due("arc(0, 1, 10)", x.arc(0, 1, 10), -2);
    due("arc(0, 1, 1)", x.arc(0, 1, 1), 9);
    due("arc(0, 1, 0)", x.arc(0, 1, 0), 1);
    due("arc(0, 1, 0)", x.arc(0, 1, 0), 0);
    due("arc(1, 0, 0)", x.arc(1, 0, 0), 4);
  }

  /** "The REWARD of a STATE: what it was, and 100." */
  private static void rewardTellsWhatWasAnd100() {
    test = "promise 5: what it was, and 100";
    ChainSolves x = chain(2);
    due("reward(0, -100)", x.reward(0, -100), 100);
    due("reward(1, 100)", x.reward(1, 100), 100);
    due("reward(0, -1)", x.reward(0, -1), 0);
    due("reward(1, 1)", x.reward(1, 1), 200);
    due("reward(0, 0)", x.reward(0, 0), 99);
    due("reward(1, 0)", x.reward(1, 0), 101);
    due("reward(0, 0)", x.reward(0, 0), 100);
  }

  // Promises 6 to 9

  /** "The least STATE of the PART of a STATE." */
  private static void partIsTheLeast() {
    test = "promise 6: the least state";
    ChainSolves x = chain(MOST, 6, 3, 1, 3, 6, 1, 5, 2, 1, 2, 5, 1, 5, 4, 1, 4, 2, 1, 2, 3, 1);
    int[] least = {0, 1, 2, 3, 2, 2, 3};
    for (int i = 0; i < MOST; i++) due("part(" + i + ")", x.part(i), least[i]);
    due("a single state", chain(1).part(0), 0);
  }

  /** "Whether the PART of a STATE is CLOSED: 1, 0." */
  private static void closedIsOneOrZero() {
    test = "promise 7: 1, 0";
    ChainSolves x = chain(3, 0, 1, 1, 1, 1, 9);
    due("is left", x.closed(0), 0);
    due("stays", x.closed(1), 1);
    due("an end", x.closed(2), 1);
    due("a single end", chain(1).closed(0), 1);
    x.arc(1, 2, 1);
    due("stays no more", x.closed(1), 0);
  }

  /** "0 if there are none" */
  private static void periodOfNone() {
    test = "promise 8: 0 if there are none";
    ChainSolves x = chain(MOST);
    for (int i = 0; i < MOST - 1; i++) x.arc(i, i + 1, 1);
    for (int i = 0; i < MOST - 1; i++) due("period(" + i + ")", x.period(i), 0);
  }

  /** "all numbers of STEPS, above 0": to be there behind 0 steps does not count */
  private static void periodAboveNoStep() {
    test = "promise 8: steps above 0";
    ChainSolves x = chain(2, 0, 1, 1);
    due("never back", x.period(0), 0);
    x.arc(1, 0, 1);
    due("back behind 2", x.period(0), 2);
  }

  /** "behind which THE WALK can be in a STATE again": an end leads to itself */
  private static void periodOfAnEnd() {
    test = "promise 8: an end";
    ChainSolves x = chain(3, 1, 2, 1, 2, 2, 4);
    due("an end", x.period(0), 1);
    due("a stay", x.period(2), 1);
    x.arc(2, 1, 1);
    due("a stay elsewhere in the ring", x.period(1), 1);
  }

  /** "The greatest number that divides all numbers of STEPS" */
  private static void periodOfEachRing() {
    test = "promise 8: rings";
    for (int states = 1; states <= MOST; states++) {
      ChainSolves x = ring(states);
      for (int i = 0; i < states; i++) due("ring of " + states + ", period(" + i + ")", x.period(i), states);
    }
  }

  /** "The greatest number that divides all": not the least of them */
  private static void periodIsNoShortestRing() {
    test = "promise 8: two rings";
    int[][] rings = {{6, 4, 2}, {6, 3, 3}, {6, 2, 2}, {6, 5, 1}, {7, 6, 1}, {7, 2, 1}, {4, 2, 2}, {5, 3, 1}, {6, 1, 1}, {7, 1, 1}};
    for (int[] r : rings) {
      ChainSolves x = ring(r[0]);
      x.arc(r[1] - 1, 0, 1);
      for (int i = 0; i < r[0]; i++) due("rings of " + r[0] + " and " + r[1] + ", period(" + i + ")", x.period(i), r[2]);
    }
  }

  /** "all numbers of STEPS": rings that are far from the state count too */
  private static void periodByRingsElsewhere() {
    test = "promise 8: rings elsewhere";
    ChainSolves x = chain(MOST);
    for (int i = 0; i < MOST - 1; i++) arcs(x, i, i + 1, 1, i + 1, i, 1);
    for (int i = 0; i < MOST; i++) due("to and fro, period(" + i + ")", x.period(i), 2);
    x.arc(6, 6, 1);
    for (int i = 0; i < MOST; i++) due("a stay at the far end, period(" + i + ")", x.period(i), 1);
    x = chain(MOST, 0, 1, 1, 1, 0, 1, 1, 2, 1, 2, 1, 1, 2, 3, 1, 3, 2, 1, 3, 4, 1, 4, 5, 1, 5, 6, 1, 6, 3, 1);
    due("ring of 4 at the far end", x.period(0), 2);
    arcs(x, 6, 3, 0, 5, 3, 1);
    due("ring of 3 at the far end", x.period(0), 1);
  }

  /** "in a STATE again": a ring that it leads to, and that does not lead back, does not count */
  private static void periodBeforeARing() {
    test = "promise 8: ahead of a ring";
    ChainSolves x = chain(4, 0, 1, 1, 1, 2, 1, 2, 1, 1, 0, 3, 1);
    due("leads to a ring and an end", x.period(0), 0);
    due("the ring", x.period(2), 2);
    due("the end", x.period(3), 1);
  }

  /** "The least STATE that is ALIKE." */
  private static void alikeIsTheLeast() {
    test = "promise 9: the least state";
    ChainSolves x = chain(MOST, 1, 1, 1, 3, 5, 1, 5, 3, 2, 4, 6, 1);
    int[] least = {0, 1, 0, 1, 4, 1, 0};
    for (int i = 0; i < MOST; i++) due("alike(" + i + ")", x.alike(i), least[i]);
    due("a single state", chain(1).alike(0), 0);
  }

  // Promises 10 to 12

  /** "(1 for itself)" */
  private static void everItself() {
    test = "promise 10: 1 for itself";
    ChainSolves x = chain(3, 0, 1, 1, 1, 1, 1);
    for (int i = 0; i < 3; i++) told("ever(i, i)", x, x.ever(i, i), 1, 1);
  }

  /** "the odds that THE WALK from a STATE is ever in another one": 0 if it cannot be come to */
  private static void everNot() {
    test = "promise 10: never";
    ChainSolves x = chain(4, 0, 1, 1, 2, 2, 5);
    told("back", x, x.ever(1, 0), 0, 1);
    told("from a stay", x, x.ever(2, 0), 0, 1);
    told("to what nothing leads to", x, x.ever(0, 2), 0, 1);
    told("from an end to an end", x, x.ever(3, 1), 0, 1);
  }

  /** "ever": 1 though it may take any number of steps */
  private static void everForSureByTurns() {
    test = "promise 10: for sure by turns";
    ChainSolves x = chain(MOST);
    for (int i = 0; i < 6; i++) arcs(x, i, 0, 9, i, i + 1, 1);
    told("up the ladder", x, x.ever(0, 6), 1, 1);
    x.arc(5, 5, 2);
    told("with a stay", x, x.ever(0, 6), 1, 1);
  }

  /** "is ever in another one": by any way there */
  private static void everInPart() {
    test = "promise 10: by any way";
    // 0 leads to 1 and 2, both lead to 3, and each to an end of its own.
    ChainSolves x = chain(6, 0, 1, 1, 0, 2, 3, 1, 3, 2, 1, 4, 1, 2, 3, 1, 2, 5, 3);
    told("ever(0, 3)", x, x.ever(0, 3), 17, 48);
    told("ever(0, 4)", x, x.ever(0, 4), 1, 12);
    told("ever(0, 5)", x, x.ever(0, 5), 9, 16);
    x.arc(3, 0, 1);
    told("with a way back", x, x.ever(0, 4), 4, 31);
  }

  /** "is in it again behind some STEP": an end is */
  private static void againAtAnEnd() {
    test = "promise 11: an end";
    ChainSolves x = chain(2);
    told("again(1)", x, x.again(1), 1, 1);
    x.arc(1, 0, 1);
    told("an end no more", x, x.again(1), 0, 1);
  }

  /** "again behind some STEP": to be there behind 0 steps does not count */
  private static void againNever() {
    test = "promise 11: never";
    ChainSolves x = chain(3, 0, 1, 1, 1, 2, 1, 2, 1, 1);
    told("again(0)", x, x.again(0), 0, 1);
  }

  /** "the odds": 1 in a part that is closed */
  private static void againForSure() {
    test = "promise 11: for sure";
    ChainSolves x = ring(MOST);
    for (int i = 0; i < MOST; i++) x.arc(i, 3, 9);
    for (int i = 0; i < MOST; i++) told("again(" + i + ")", x, x.again(i), 1, 1);
  }

  /** "the odds": by a stay, and by ways round */
  private static void againPerhaps() {
    test = "promise 11: perhaps";
    ChainSolves x = chain(3, 0, 0, 1, 0, 2, 1);
    told("by a stay", x, x.again(0), 1, 2);
    arcs(x, 0, 1, 2, 1, 0, 3, 1, 2, 1);
    told("by a stay and round", x, x.again(0), 5, 8);
    x.arc(1, 1, 4);
    told("by a stay elsewhere", x, x.again(0), 5, 8);
  }

  /** "is ever in a, and was not in b before": it is in a at once */
  private static void beforeFromA() {
    test = "promise 12: from a";
    ChainSolves x = chain(3, 0, 1, 1, 1, 0, 1);
    told("before(0, 0, 1)", x, x.before(0, 0, 1), 1, 1);
    told("an end", x, x.before(2, 2, 0), 1, 1);
  }

  /** "was not in b before": it is in b at once */
  private static void beforeFromB() {
    test = "promise 12: from b";
    ChainSolves x = chain(2, 0, 1, 1, 1, 0, 1);
    told("before(0, 1, 0)", x, x.before(0, 1, 0), 0, 1);
    told("before(1, 0, 1)", x, x.before(1, 0, 1), 0, 1);
  }

  /** "was not in b before": there is no way round b */
  private static void beforeOnlyThroughB() {
    test = "promise 12: through b";
    ChainSolves x = chain(3, 0, 1, 1, 1, 2, 1);
    told("before(0, 2, 1)", x, x.before(0, 2, 1), 0, 1);
    told("before(0, 1, 2)", x, x.before(0, 1, 2), 1, 1);
    x.arc(0, 2, 3);
    told("and a way round", x, x.before(0, 2, 1), 3, 4);
  }

  /** "is ever in a": b need not be met at all */
  private static void beforeWithoutB() {
    test = "promise 12: without b";
    ChainSolves x = chain(4, 0, 1, 1, 0, 2, 2);
    told("b is never met", x, x.before(0, 1, 3), 1, 3);
  }

  /** "is ever in a": 0 if neither is met */
  private static void beforeNeither() {
    test = "promise 12: neither";
    ChainSolves x = chain(4, 0, 0, 5, 1, 2, 3);
    told("stays", x, x.before(0, 1, 2), 0, 1);
    told("an end", x, x.before(3, 1, 2), 0, 1);
  }

  /** "was not in b before": where it started may be met again */
  private static void beforeComesBack() {
    test = "promise 12: comes back";
    ChainSolves x = chain(4, 0, 0, 2, 0, 1, 1, 0, 2, 1, 0, 3, 1, 3, 0, 1, 1, 0, 1, 2, 0, 1);
    told("before(0, 1, 2)", x, x.before(0, 1, 2), 1, 2);
    told("before(3, 1, 2)", x, x.before(3, 1, 2), 1, 2);
    x.arc(3, 1, 1);
    told("two ways", x, x.before(0, 1, 2), 3, 5);
  }

  // Promises 13 and 14

  /** "for the first time": behind 0 steps if it starts in the set */
  private static void stepsInTheSet() {
    test = "promise 13: in the set";
    ChainSolves x = chain(3, 0, 1, 1, 1, 0, 1);
    told("steps(0, {0})", x, x.steps(0, 0b001), 0, 1);
    told("steps(0, {0, 1})", x, x.steps(0, 0b011), 0, 1);
    told("steps(0, {0, 2})", x, x.steps(0, 0b101), 0, 1);
    told("an end", x, x.steps(2, 0b100), 0, 1);
  }

  /** "a set (bits)": all bits of the states that there are, and none of them is refused */
  private static void stepsToWhole() {
    test = "promise 13: all states";
    for (int states = 1; states <= MOST; states++) {
      ChainSolves x = chain(states);
      told("steps(0, all of " + states + ")", x, x.steps(0, (1 << states) - 1), 0, 1);
      due("steps(0, one bit more)", x.steps(0, (1 << states + 1) - 1), -1);
      due("steps(0, none)", x.steps(0, 0), -3);
    }
  }

  /** "in a STATE of a set .. for the first time": the nearest of them counts */
  private static void stepsFirstTime() {
    test = "promise 13: the first time";
    ChainSolves x = ring(MOST);
    for (int k = 0; k < MOST; k++) told("steps(0, {" + k + "})", x, x.steps(0, 1 << k), k, 1);
    told("steps(2, {0, 5})", x, x.steps(2, 0b0100001), 3, 1);
    told("steps(6, {0, 5})", x, x.steps(6, 0b0100001), 1, 1);
  }

  /** "in the mean": though it may take any number of steps */
  private static void stepsForSureByTurns() {
    test = "promise 13: by turns";
    ChainSolves x = chain(MOST);
    for (int i = 0; i < 6; i++) arcs(x, i, 0, 9, i, i + 1, 1);
    told("up the ladder", x, x.steps(0, 1 << 6), 1111110, 1);
    told("from its last rung", x, x.steps(5, 1 << 6), 1000000, 1);
    told("to any rung above", x, x.steps(0, 0b1111110), 10, 1);
  }

  /** "-3 the odds that it ever is are below 1": what is behind the set does not count */
  private static void stepsPastTheSet() {
    test = "promise 13: past the set";
    ChainSolves x = chain(4, 0, 1, 2, 0, 0, 1, 1, 0, 1, 1, 2, 1, 1, 3, 1);
    told("steps(0, {1})", x, x.steps(0, 0b0010), 3, 2);
    due("steps(0, {2})", x.steps(0, 0b0100), -3);
    due("steps(0, {2, 3})", x.steps(0, 0b1100), 1);
    due("steps(2, {1})", x.steps(2, 0b0010), -3);
  }

  /** "a set (bits)": the bit of the seventh state */
  private static void stepsToTheHighestState() {
    test = "promise 13: the last bit";
    ChainSolves x = chain(MOST, 0, 6, 1, 0, 0, 1);
    told("steps(0, {6})", x, x.steps(0, 64), 2, 1);
    due("steps(0, {7})", x.steps(0, 128), -1);
    due("steps(0, {6, 7})", x.steps(0, 192), -1);
    due("steps(0, {6, 31})", x.steps(0, 64 | Integer.MIN_VALUE), -1);
    due("steps(0, {6, 30})", x.steps(0, 64 | 1 << 30), -1);
  }

  /** "behind how many numbers of STEPS": 0 is one of them */
  private static void visitsCountTheFirst() {
    test = "promise 14: 0 steps count";
    ChainSolves x = chain(2, 0, 1, 1);
    told("visits(0, 0)", x, x.visits(0, 0), 1, 1);
  }

  /** "in another one": 0 if it cannot be come to */
  private static void visitsNone() {
    test = "promise 14: none";
    ChainSolves x = chain(4, 0, 1, 1, 2, 2, 1);
    told("back", x, x.visits(1, 0), 0, 1);
    told("from a stay", x, x.visits(2, 0), 0, 1);
    told("apart", x, x.visits(3, 0), 0, 1);
  }

  /** "-3 endlessly many": not from where it cannot be come to */
  private static void visitsNoneThoughEndless() {
    test = "promise 14: none, though endless from elsewhere";
    ChainSolves x = chain(4, 0, 1, 1, 2, 2, 1);
    told("to an end", x, x.visits(2, 1), 0, 1);
    told("to a stay", x, x.visits(0, 2), 0, 1);
    told("from an end to an end", x, x.visits(3, 1), 0, 1);
    due("an end", x.visits(0, 1), -3);
    due("an end from itself", x.visits(1, 1), -3);
    due("a stay from itself", x.visits(2, 2), -3);
    x.arc(0, 0, 9);
    due("still endless", x.visits(0, 1), -3);
    told("but not on the way", x, x.visits(0, 0), 10, 1);
  }

  /** "in the mean" */
  private static void visitsByTurns() {
    test = "promise 14: by turns";
    ChainSolves x = chain(MOST);
    for (int i = 0; i < 6; i++) arcs(x, i, 0, 9, i, i + 1, 1);
    told("the foot", x, x.visits(0, 0), 1000000, 1);
    told("the last rung", x, x.visits(0, 5), 10, 1);
    told("the foot, from the last rung", x, x.visits(5, 0), 900000, 1);
    x = chain(4, 0, 1, 1, 0, 2, 2, 1, 1, 1, 1, 3, 1);
    told("perhaps come to, then twice", x, x.visits(0, 1), 2, 3);
  }

  // Promises 15 and 16

  /** "as n grows without end": an end has all of it */
  private static void shareOfAnEnd() {
    test = "promise 15: an end";
    ChainSolves x = chain(2, 0, 0, 9, 0, 1, 1);
    told("share(1, 1)", x, x.share(1, 1), 1, 1);
    told("share(0, 1)", x, x.share(0, 1), 1, 1);
  }

  /** "as n grows without end": what is left for ever has none of it */
  private static void shareOfWhatIsLeft() {
    test = "promise 15: what is left";
    ChainSolves x = chain(2, 0, 0, 9, 0, 1, 1);
    told("share(0, 0)", x, x.share(0, 0), 0, 1);
    x.arc(1, 0, 1);
    told("no more left", x, x.share(0, 0), 10, 11);
  }

  /** "what the share .. comes to": also where the odds behind n steps come to nothing */
  private static void shareOfARing() {
    test = "promise 15: a ring";
    for (int states = 1; states <= MOST; states++) {
      ChainSolves x = ring(states);
      for (int i = 0; i < states; i++) told("ring of " + states, x, x.share(0, i), 1, states);
    }
  }

  /** "in the mean": over the parts that it may end in */
  private static void shareOfSeveralParts() {
    test = "promise 15: several parts";
    ChainSolves x = chain(5, 0, 1, 1, 0, 2, 2, 0, 0, 3, 2, 3, 1, 3, 2, 1, 3, 3, 3);
    told("an end", x, x.share(0, 1), 1, 3);
    told("in a part", x, x.share(0, 2), 2, 15);
    told("in a part", x, x.share(0, 3), 8, 15);
    told("within the part", x, x.share(2, 2), 1, 5);
    told("another part", x, x.share(2, 1), 0, 1);
  }

  /** "the share of the numbers of STEPS": those of all states are 1 */
  private static void shareAddsUp() {
    test = "promise 15: great numbers";
    ChainSolves x = chain(MOST, 0, 4, 8, 0, 2, 3, 1, 4, 5, 1, 3, 3, 2, 3, 4, 2, 6, 7, 3, 4, 5, 3, 2, 7, 4, 3, 4,
        4, 2, 7, 5, 0, 8, 5, 1, 3, 6, 4, 1, 6, 5, 1, 6, 0, 9);
    told("share(0, 6)", x, x.share(0, 6), 8348032, 47964755);
    told("from elsewhere", x, x.share(5, 6), 8348032, 47964755);
    long common = 47964755L;
    long sum = 0;
    for (int i = 0; i < MOST; i++) {
      x.share(0, i);
      due("lower() divides", common % x.lower(), 0);
      sum += x.upper() * (common / x.lower());
    }
    due("sum of the shares", sum, common);
  }

  /** "THE WALK is in a STATE": 0 for one that cannot be come to */
  private static void shareNotThere() {
    test = "promise 15: not there";
    ChainSolves x = chain(3, 0, 0, 1);
    told("from a stay", x, x.share(0, 1), 0, 1);
    told("from an end", x, x.share(1, 2), 0, 1);
    told("to a stay", x, x.share(1, 0), 0, 1);
  }

  /** "behind n STEPS (0 .. 4)": behind 0 */
  private static void afterNoStep() {
    test = "promise 16: 0 steps";
    ChainSolves x = chain(2, 0, 1, 1);
    told("after(0, 0, 0)", x, x.after(0, 0, 0), 1, 1);
    told("after(0, 1, 0)", x, x.after(0, 1, 0), 0, 1);
    told("after(0, 0, 1)", x, x.after(0, 0, 1), 0, 1);
    told("after(0, 1, 1)", x, x.after(0, 1, 1), 1, 1);
  }

  /** "behind n STEPS (0 .. 4)": behind 4, and each number below */
  private static void afterFour() {
    test = "promise 16: 4 steps";
    ChainSolves x = ring(MOST);
    for (int n = 0; n <= 4; n++) for (int i = 0; i < MOST; i++) told("after(0, " + i + ", " + n + ")", x, x.after(0, i, n), i == n ? 1 : 0, 1);
    x = chain(2, 0, 0, 1, 0, 1, 2);
    int all = 1;
    for (int n = 0; n <= 4; n++, all *= 3) told("still there behind " + n, x, x.after(0, 0, n), 1, all);
    told("after(0, 1, 4)", x, x.after(0, 1, 4), 80, 81);
  }

  /** "the odds that THE WALK is in a STATE": those of all states are 1, with totals that have no common divisor */
  private static void afterAddsUp() {
    test = "promise 16: sum of the odds";
    ChainSolves x = chain(4, 0, 1, 2, 0, 2, 5, 1, 0, 4, 1, 3, 7, 2, 1, 9, 2, 2, 1, 3, 0, 1, 3, 2, 8);
    for (int n = 0; n <= 4; n++) {
      java.math.BigInteger up = java.math.BigInteger.ZERO;
      java.math.BigInteger low = java.math.BigInteger.ONE;
      for (int i = 0; i < 4; i++) {
        x.after(0, i, n);
        java.math.BigInteger a = java.math.BigInteger.valueOf(x.upper());
        java.math.BigInteger b = java.math.BigInteger.valueOf(x.lower());
        up = up.multiply(b).add(a.multiply(low));
        low = low.multiply(b);
      }
      due("behind " + n + " steps", up.equals(low) ? 1 : 0, 1);
    }
  }

  // Promise 17

  /** "before it is in an END": from an end the sum is empty */
  private static void worthOfAnEnd() {
    test = "promise 17: an end";
    ChainSolves x = chain(1);
    x.reward(0, 100);
    told("worth(0)", x, x.worth(0), 0, 1);
  }

  /** "before it is in an END": the end's own reward does not count */
  private static void worthLeavesOutTheEnd() {
    test = "promise 17: without the end's reward";
    ChainSolves x = chain(2, 0, 1, 1);
    x.reward(0, 3);
    x.reward(1, 100);
    told("worth(0)", x, x.worth(0), 3, 1);
  }

  /** "of all STATES in which THE WALK is": the first one too */
  private static void worthCountsTheFirst() {
    test = "promise 17: with the first reward";
    ChainSolves x = chain(3, 0, 1, 1, 1, 2, 1);
    x.reward(0, 100);
    told("worth(0)", x, x.worth(0), 100, 1);
    x.reward(1, 7);
    told("worth(0)", x, x.worth(0), 107, 1);
    told("worth(1)", x, x.worth(1), 7, 1);
  }

  /** "(as often as it is)" */
  private static void worthAsOften() {
    test = "promise 17: as often as it is";
    ChainSolves x = chain(3, 0, 0, 9, 0, 1, 3, 1, 0, 1, 1, 2, 1);
    x.reward(0, 1);
    told("worth(0)", x, x.worth(0), 8, 1);
    x.reward(1, 10);
    told("worth(0)", x, x.worth(0), 28, 1);
  }

  /** "the sum, in the mean, of the REWARDS": they may be below 0 */
  private static void worthBelowZero() {
    test = "promise 17: below 0";
    ChainSolves x = chain(MOST, 0, 1, 2, 0, 2, 9, 0, 3, 1, 1, 0, 1, 1, 2, 1, 1, 5, 8, 1, 6, 2, 2, 0, 1, 2, 3, 9, 2, 4, 1, 2, 6, 1,
        3, 1, 1, 3, 4, 8, 3, 5, 3, 4, 0, 8, 4, 1, 2, 4, 4, 1, 4, 5, 1, 5, 0, 9, 5, 2, 1, 5, 3, 1, 5, 6, 1);
    for (int i = 0; i < 6; i++) x.reward(i, i == 4 ? 99 : 100);
    told("great", x, x.worth(0), 988917144, 403807);
    for (int i = 0; i < 6; i++) x.reward(i, i == 4 ? -99 : -100);
    told("small", x, x.worth(0), -988917144, 403807);
  }

  /** "the sum": it may be 0 though rewards are not */
  private static void worthEvensOut() {
    test = "promise 17: evens out";
    ChainSolves x = chain(3, 0, 1, 1, 1, 2, 1);
    x.reward(0, 100);
    x.reward(1, -100);
    told("worth(0)", x, x.worth(0), 0, 1);
    told("worth(1)", x, x.worth(1), -100, 1);
  }

  /** "-3 the odds that it ever is in one are below 1": not if it is so for sure, by turns, in one of several ends */
  private static void worthForSureByTurns() {
    test = "promise 17: for sure by turns";
    ChainSolves x = ruin();
    x.reward(1, 3);
    x.reward(2, 3);
    told("worth(1)", x, x.worth(1), 6, 1);
    x.arc(3, 3, 1);
    due("one end is none", x.worth(1), -3);
    told("the other one", x, x.worth(0), 0, 1);
  }

  // Promise 20

  /** "How many": of nothing, 0 */
  private static void toldOfNothing() {
    test = "promise 20: nothing";
    ChainSolves x = new ChainSolves();
    for (int what = 0; what <= 5; what++) due("told(" + what + ")", x.told(what), 0);
    due("told(-1)", x.told(-1), -2);
    due("told(6)", x.told(6), -2);
  }

  /** "0 STATES" */
  private static void toldOfStates() {
    test = "promise 20: states";
    for (int states = 0; states <= MOST; states++) due("told(0)", chain(states).told(0), states);
    due("of eight calls", chain(MOST + 1).told(0), MOST);
  }

  /** "1 WEIGHTS that are not 0" */
  private static void toldOfWeights() {
    test = "promise 20: weights";
    ChainSolves x = chain(3);
    int found = 0;
    for (int i = 0; i < 3; i++) for (int j = 0; j < 3; j++) { x.arc(i, j, 1 + i + j); due("told(1)", x.told(1), ++found); }
    x.arc(1, 1, 2);
    due("changed", x.told(1), 9);
    x.arc(1, 1, 0);
    due("taken away", x.told(1), 8);
    x.arc(1, 1, 0);
    due("taken away twice", x.told(1), 8);
    x.arc(1, 1, 10);
    due("refused", x.told(1), 8);
  }

  /** "2 ENDS" */
  private static void toldOfEnds() {
    test = "promise 20: ends";
    ChainSolves x = chain(MOST);
    for (int i = 0; i < MOST; i++) { due("told(2)", x.told(2), MOST - i); x.arc(i, 0, 1); }
    due("none", x.told(2), 0);
    x.arc(6, 0, 0);
    due("one", x.told(2), 1);
  }

  /** "3 PARTS" */
  private static void toldOfParts() {
    test = "promise 20: parts";
    ChainSolves x = chain(MOST);
    due("each for itself", x.told(3), MOST);
    for (int i = 0; i < MOST - 1; i++) x.arc(i, i + 1, 1);
    due("a row", x.told(3), MOST);
    for (int i = 1; i < MOST; i++) { x.arc(i, 0, 1); due("a part that grows", x.told(3), MOST - i); }
  }

  /** "4 PARTS that are CLOSED" */
  private static void toldOfClosed() {
    test = "promise 20: closed parts";
    ChainSolves x = chain(MOST);
    due("all ends", x.told(4), MOST);
    for (int i = 0; i < MOST - 1; i++) { x.arc(i, i + 1, 1); due("one left", x.told(4), MOST - 1 - i); }
    arcs(x, 0, 1, 0, 0, 0, 1);
    due("a stay and an end", x.told(4), 2);
    x.arc(6, 0, 1);
    due("a stay alone", x.told(4), 1);
  }

  /** "5 groups of STATES that are ALIKE" */
  private static void toldOfGroups() {
    test = "promise 20: groups";
    ChainSolves x = chain(MOST);
    due("ends", x.told(5), 1);
    for (int i = 0; i < MOST; i++) { x.reward(i, i); due("rewards", x.told(5), i + 1); }
    due("each for itself", x.told(5), MOST);
  }
}
