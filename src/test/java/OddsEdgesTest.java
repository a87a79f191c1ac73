import java.util.List;

/** Section 3 of the document at its edges; promises 15 to 21. */
public final class OddsEdgesTest {
  private static final int ONE = 1000000;

  public static void main(String[] args) {
    endsAtTheirBounds();
    endsByOneValue();
    naturalsAlone();
    standsByOneValue();
    handsByOneValue();
    lastCardLeft();
    eachSumIsCut();
    bestOfLikeOnes();
    bestWithoutRuleTwo();
    costs();
    rowsOfAWholeShoe();
    linesAtTheirBounds();
    ruledAtFirst();
    ruledLeavesTheRules();
    handsOfTwoValues();
    saysOfOneHand();
    saysOfLikeOnes();
    saysOfTwoHands();
    saysOfLikeWorths();
    saysByWhatWasLeftThen();
    Due.end();
  }

  /** A table of one pack of which one card of such a VALUE is LEFT. */
  private static CardsGone oneLeft(int v) {
    for (int seed = 0; seed < 20000; seed++) {
      if (Due.shuffled(1, seed).get(0) != v) continue;
      CardsGone x = new CardsGone();
      x.player(0, 9999, 0);
      Due.text(x, 0, "0");
      x.shoe(1, 1);
      x.shoe(2, 95);
      x.shoe(0, seed);
      for (int i = 0; i < 14 && x.left(0) > 2; i++) x.play(0, 1);
      if (x.left(0) == 1) return x;
    }
    throw new IllegalStateException("no SEED leaves a " + v);
  }

  /** A table of one pack of which two cards of such VALUES are LEFT, behind a MISDEAL. */
  private static CardsGone twoLeft(int v, int other) {
    for (int seed = 0; seed < 20000; seed++) {
      int burnt = Due.shuffled(1, seed).get(0);
      if (burnt != v && burnt != other) continue;
      CardsGone x = new CardsGone();
      x.player(0, 9999, 0);
      Due.text(x, 0, "0");
      x.shoe(1, 1);
      x.shoe(2, 95);
      x.shoe(0, seed);
      for (int i = 0; i < 14 && x.left(0) > 2; i++) x.play(0, 1);
      if (x.left(0) == 2 && x.left(12) == 52 && x.left(v) > 0 && x.left(other) == (v == other ? 2 : 1)) return x;
    }
    throw new IllegalStateException("no SEED leaves " + v + " and " + other);
  }

  private static void endsAtTheirBounds() {
    CardsGone x = new CardsGone();
    for (int d = 0; d <= 11; d++) {
      for (int end = 14; end <= 24; end++) {
        boolean bad = d < 1 || d > 10 || end < 15 || end > 23;
        if (bad) Due.due("ends(" + d + ", " + end + ")", x.ends(d, end), CardsGone.BAD);
        else Due.isSo("ends(" + d + ", " + end + ") is told", x.ends(d, end) >= 0);
      }
    }
  }

  /** Where the dealer ends for sure from an open VALUE, if all that is LEFT is of one VALUE. */
  private static int endOf(int d, int v, int stands, int softStands) {
    int sum = d + v;
    boolean ace = d == 1 || v == 1;
    if (ace && sum == 11) return 23;
    for (int i = 0; i < 30; i++) {
      boolean soft = ace && sum <= 11;
      int total = soft ? sum + 10 : sum;
      if (total > stands || total == stands && !(soft && softStands == 1)) return Math.min(22, total);
      sum += v;
    }
    return -1;
  }

  /** "ENDS of the dealer from its open VALUE: 15 .. 21 and above (22), by RULES 0 and 3 .. a NATURAL of it is told apart (23)" */
  private static void endsByOneValue() {
    for (int v = 1; v <= 10; v++) {
      CardsGone x = oneLeft(v);
      for (int stands = 15; stands <= 19; stands++) {
        for (int softStands = 0; softStands <= 1; softStands++) {
          x.rule(3, stands);
          x.rule(0, softStands);
          int d = 1 + (v + stands + softStands) % 10;
          for (int i = 0; i < 3; i++) {
            int end = endOf(d, v, stands, softStands);
            String name = "from " + d + " by " + v + " at " + stands + " and " + softStands;
            Due.due(name, x.ends(d, Math.max(15, end)), ONE);
            Due.due("another end " + name, x.ends(d, end == 17 ? 18 : 17), 0);
            d = i == 0 ? 1 : 10;
          }
        }
      }
    }
  }

  /** "(23): for the dealer with an ACE or a 10 open" */
  private static void naturalsAlone() {
    int[] packs = {1, 8};
    for (int many : packs) {
      CardsGone x = new CardsGone();
      x.shoe(1, many);
      Due.due("from an ACE", x.ends(1, 23), 16 * ONE / 52);
      Due.due("from a 10", x.ends(10, 23), 4 * ONE / 52);
      for (int d = 2; d <= 9; d++) Due.due("from " + d, x.ends(d, 23), 0);
    }
    CardsGone aces = oneLeft(1), tens = oneLeft(10), nine = oneLeft(9);
    Due.due("from an ACE without a 10 LEFT", aces.ends(1, 23), 0);
    Due.due("from a 10 with an ACE alone LEFT", aces.ends(10, 23), ONE);
    Due.due("from an ACE with a 10 alone LEFT", tens.ends(1, 23), ONE);
    Due.due("from a 10 without an ACE LEFT", tens.ends(10, 23), 0);
    Due.due("21 from an ACE is told apart", tens.ends(1, 21), 0);
    Due.due("from an ACE by a 9", nine.ends(1, 23), 0);
    Due.due("20 from an ACE by a 9", nine.ends(1, 20), ONE);
  }

  /** "STAND at a TOTAL: the sum of ENDS that are less or above, less that of those that are greater; above 21: less the sum of all (but 23 ..)" */
  private static void standsByOneValue() {
    CardsGone x = oneLeft(10);
    // the dealer has 20 from a 10, 17 from a 7, 26 from a 6, 21 for sure (a NATURAL) from an ACE
    int[][] due = {{10, 19, -1}, {10, 20, 0}, {10, 21, 1}, {7, 16, -1}, {7, 17, 0}, {7, 18, 1}, {7, 4, -1}, {7, 21, 1}, {6, 4, 1}, {6, 21, 1},
        {6, 16, 1}, {1, 4, 0}, {1, 20, 0}, {1, 21, 0}};
    for (int[] s : due) {
      Due.due("STAND at " + s[1] + " against " + s[0], x.worth(s[1], s[0], 0), s[2] * ONE);
      if (s[1] >= 12) Due.due("STAND at SOFT " + s[1] + " against " + s[0], x.worth(1000 + s[1], s[0], 0), s[2] * ONE);
    }
    // a 10 drawn: 12 .. 21 are above 21 then, which is less the sum of all - none of a NATURAL
    for (int total = 12; total <= 21; total++) {
      Due.due("DRAW at " + total + " against 6", x.worth(total, 6, 1), -ONE);
      Due.due("DOUBLE at " + total + " against 6", x.worth(total, 6, 2), -2 * ONE);
      Due.due("DRAW at " + total + " against an ACE", x.worth(total, 1, 1), 0);
      Due.due("DRAW at SOFT " + total + " against 10", x.worth(1000 + total, 10, 1), total > 20 ? ONE : total == 20 ? 0 : -ONE);
    }
    Due.due("DRAW at 11 against 10", x.worth(11, 10, 1), ONE);
    Due.due("DOUBLE at 11 against 10", x.worth(11, 10, 2), 2 * ONE);
    Due.due("DRAW at 10 against 10", x.worth(10, 10, 1), 0);
    Due.due("DRAW at 9 against 10", x.worth(9, 10, 1), -ONE);
    Due.due("BEST at 11 against 10", x.worth(11, 10, 3), 2);
    Due.due("BEST at 16 against 6", x.worth(16, 6, 3), 0);
    Due.due("BEST of like ones at 19 against 10, all lost", x.worth(9, 10, 3), 0);
    Due.due("BEST of like ones against an ACE", x.worth(15, 1, 3), 0);
  }

  /** "WORTH of a HAND" and "DRAW ..: the greater one of STAND and DRAW of what it becomes (21 and above: STAND)", by one VALUE. */
  private static void handsByOneValue() {
    // ACES: 12 is drawn on to 18 and more against 17; 2: 20 against 18; 3: 21 against 18; 4: 20 and 20; 5: 20 and 20; 6: 18 and 18;
    // 7: 21 and 21; 8: 16 against 24; 9: 18 and 18; 10: 20 and 20
    int[] due = {0, 1, 1, 1, 0, 0, 0, 0, 1, 0, 0};
    for (int v = 1; v <= 10; v++) Due.due("whole() by " + v + " alone", oneLeft(v).whole(), due[v] * ONE);
    CardsGone aces = oneLeft(1);
    Due.due("STAND at SOFT 12 against an ACE", aces.worth(1012, 1, 0), -ONE);
    Due.due("DRAW at SOFT 12 against an ACE", aces.worth(1012, 1, 1), ONE);
    Due.due("DOUBLE at SOFT 12 against an ACE", aces.worth(1012, 1, 2), -2 * ONE);
    Due.due("DRAW at SOFT 21 becomes 12, which is drawn on", aces.worth(1021, 1, 1), ONE);
    Due.due("DRAW at 20 becomes 21", aces.worth(20, 1, 1), ONE);
    Due.due("DRAW at 21 becomes 22", aces.worth(21, 1, 1), -ONE);
    Due.due("an ACE on 10 is SOFT 21", aces.worth(10, 1, 2), 2 * ONE);
    Due.due("an ACE on 11 is 12", aces.worth(11, 1, 2), -2 * ONE);
    aces.rule(0, 1);
    Due.due("by RULE 0 the dealer has 18", aces.ends(1, 18), ONE);
    Due.due("whole() then", aces.whole(), ONE);
    aces.rule(3, 19);
    Due.due("at STANDS 19 by RULE 0 it has 20", aces.ends(1, 20), ONE);
  }

  /** "(without cards LEFT nothing is asked: STATE)": with one LEFT all is. */
  private static void lastCardLeft() {
    CardsGone x = oneLeft(5);
    Due.due("left(0)", x.left(0), 1);
    Due.due("ends(5, 20)", x.ends(5, 20), ONE);
    Due.isSo("worth()", x.worth(16, 5, 0) != Due.VOID && x.worth(16, 5, 3) != Due.VOID);
    Due.isSo("cost()", x.cost(16, 5, 0) != Due.VOID);
    Due.due("whole()", x.whole(), 0);
    Due.due("left(13): t by one card", x.left(13), 0);
  }

  // ---- the sums by what is told of the parts

  private static int next(int total, int v) {
    boolean soft = total > 1000;
    int sum = (soft ? total - 1010 : total) + v;
    return (soft || v == 1) && sum <= 11 ? 1010 + sum : sum;
  }

  private static int stand(CardsGone x, int total, int d, int sum) {
    int plain = total > 1000 ? total - 1000 : total;
    return plain > 21 ? -sum : x.worth(plain, d, 0);
  }

  /** "All in millionths, cut (toward 0) at each sum by all LEFT": each DRAW and DOUBLE from what it becomes. */
  private static void eachSumIsCut() {
    int[] totals = {4, 9, 10, 11, 12, 16, 20, 21, 1012, 1013, 1020, 1021};
    for (int round = 0; round < 4; round++) {
      for (int total : totals) {
        CardsGone x = new CardsGone();
        x.player(0, 9999, 0);
        x.shoe(1, round + 1);
        x.shoe(2, 95);
        if (round == 1) x.rule(0, 1);
        if (round == 2) x.rule(3, 15);
        if (round == 3) x.rule(3, 19);
        x.play(0, round * 5);
        int d = 1 + (total * 3 + round * 7) % 10, sum = 0;
        for (int end = 15; end <= 22; end++) sum += x.ends(d, end);
        int plain = total > 1000 ? total - 1000 : total, stands = 0;
        for (int end = 15; end <= 22; end++) stands += end == 22 || end < plain ? x.ends(d, end) : end > plain ? -x.ends(d, end) : 0;
        String name = total + " against " + d + " in round " + round;
        Due.due("STAND at " + name, x.worth(total, d, 0), stands);
        long draws = 0, twice = 0;
        for (int v = 1; v <= 10; v++) {
          int then = next(total, v), stood = stand(x, then, d, sum);
          boolean done = then >= 21 && then < 1000 || then == 1021;
          twice += (long) x.left(v) * stood;
          draws += (long) x.left(v) * (done ? stood : Math.max(stood, x.worth(then, d, 1)));
        }
        Due.due("DRAW at " + name, x.worth(total, d, 1), draws / x.left(0));
        Due.due("DOUBLE at " + name, x.worth(total, d, 2), 2 * (twice / x.left(0)));
      }
    }
  }

  /** "of like ones the least" */
  private static void bestOfLikeOnes() {
    CardsGone x = oneLeft(10);
    // against 10: STAND at 9 and less is lost; a DRAW at 10 makes like ones, as does a DOUBLE
    Due.due("STAND at 10", x.worth(10, 10, 0), -ONE);
    Due.due("DRAW at 10", x.worth(10, 10, 1), 0);
    Due.due("DOUBLE at 10", x.worth(10, 10, 2), 0);
    Due.due("of DRAW and DOUBLE the DRAW", x.worth(10, 10, 3), 1);
    Due.due("COST of DRAW", x.cost(10, 10, 1), 0);
    Due.due("COST of DOUBLE", x.cost(10, 10, 2), 0);
    Due.due("COST of STAND", x.cost(10, 10, 0), ONE);
    Due.due("STAND at 9", x.worth(9, 10, 0), -ONE);
    Due.due("DRAW at 9", x.worth(9, 10, 1), -ONE);
    Due.due("of STAND and DRAW the STAND", x.worth(9, 10, 3), 0);
    Due.due("all of three", x.worth(12, 1, 3), 0);
    CardsGone six = oneLeft(6);
    // against 6, which has 18: a 6 on 12 is like ones by DRAW and DOUBLE, on 15 it is won
    Due.due("DRAW and DOUBLE at 12", x.worth(12, 6, 3) + six.worth(12, 6, 3), 1);
    Due.due("DOUBLE alone at 15", six.worth(15, 6, 3), 2);
    Due.due("STAND and no other at 19", six.worth(19, 6, 3), 0);
  }

  /** "DOUBLE (2; with two cards and RULE 2 alone)" */
  private static void bestWithoutRuleTwo() {
    CardsGone x = oneLeft(6);
    x.rule(2, 0);
    Due.due("BEST at 15 against 6", x.worth(15, 6, 3), 1);
    Due.due("DOUBLE is told all the same", x.worth(15, 6, 2), 2 * ONE);
    Due.due("COST of a DRAW", x.cost(15, 6, 1), 0);
    Due.due("COST of a DOUBLE", x.cost(15, 6, 2), Due.VOID);
    Due.due("THE ROW at 11 against 6", x.row(11, 6, 0), 1);
    x.rule(2, 1);
    Due.due("BEST at 15 with RULE 2", x.worth(15, 6, 3), 2);
    Due.due("COST of a DRAW", x.cost(15, 6, 1), ONE);
    Due.due("COST of a STAND", x.cost(15, 6, 0), 3 * ONE);
    Due.due("THE ROW at 11 against 6", x.row(11, 6, 0), 2);
  }

  /** "COST of a play at a TOTAL against d by what is LEFT: BEST's less that of it." */
  private static void costs() {
    CardsGone x = oneLeft(8);
    // the dealer has 24 from an 8, 18 from a 10, 17 from a 9
    int[][] due = {{16, 8, 0, 2, 3}, {4, 8, 1, 1, 0}, {13, 10, 3, 1, 0}, {21, 10, 0, 2, 3}, {1021, 10, 1, 1, 0}, {18, 10, 0, 1, 2},
        {1012, 9, 3, 1, 0}};
    for (int[] c : due) {
      for (int play = 0; play <= 2; play++) {
        Due.due("COST of " + play + " at " + c[0] + " against " + c[1], x.cost(c[0], c[1], play), c[2 + play] * ONE);
      }
    }
    int[] bad = {-1, 3};
    for (int play : bad) Due.due("cost(16, 8, " + play + ")", x.cost(16, 8, play), Due.VOID);
  }

  /** "THE ROW: BEST at a TOTAL for a whole SHOE (all LEFT)": whatever is LEFT now, for all PACKS. */
  private static void rowsOfAWholeShoe() {
    CardsGone whole = new CardsGone(), x = oneLeft(6);
    int unlike = 0;
    for (int total = 4; total <= 21; total++) {
      for (int d = 1; d <= 10; d += 3) {
        Due.due("row(" + total + ", " + d + ", 0)", x.row(total, d, 0), whole.worth(total, d, 3));
        Due.due("row(" + total + ", " + d + ", 1)", x.row(total, d, 1), whole.row(total, d, 1));
        if (x.worth(total, d, 3) != x.row(total, d, 0)) unlike++;
      }
    }
    Due.isSo("BEST by what is LEFT is often another one", unlike > 5);
    Due.due("a LINE's WORTH where DOUBLE is BEST", whole.row(11, 6, 1), whole.cost(11, 6, 1));
    Due.due("a LINE's WORTH where STAND is BEST", whole.row(20, 6, 1), Math.min(whole.cost(20, 6, 1), whole.cost(20, 6, 2)));
    Due.due("a LINE's WORTH where DRAW is BEST", whole.row(16, 10, 1), Math.min(whole.cost(16, 10, 0), whole.cost(16, 10, 2)));
    Due.due("a LINE's WORTH where STAND is BEST and DOUBLE next", whole.row(1019, 6, 1), whole.cost(1019, 6, 2));
    Due.due("a LINE's WORTH where DRAW is BEST and DOUBLE next", whole.row(9, 2, 1), whole.cost(9, 2, 2));
    Due.isSo("DOUBLE is next there", whole.cost(1019, 6, 2) < whole.cost(1019, 6, 1) && whole.cost(9, 2, 2) < whole.cost(9, 2, 0));
    whole.rule(2, 0);
    Due.due("without RULE 2 DOUBLE is not next", whole.row(1019, 6, 1), whole.cost(1019, 6, 1));
    Due.due("without RULE 2 DOUBLE is not next", whole.row(9, 2, 1), whole.cost(9, 2, 0));
    Due.due("without RULE 2 the next best is no DOUBLE", whole.row(11, 6, 1), whole.cost(11, 6, 0));
    Due.due("row(16, 5, 2)", whole.row(16, 5, 2), Due.VOID);
    Due.due("row(16, 5, -1)", whole.row(16, 5, -1), Due.VOID);
  }

  /** "a TOTAL (4 .. 21; 1000 more: SOFT, 12 .. 21) against d" */
  private static void linesAtTheirBounds() {
    CardsGone x = new CardsGone();
    int[] in = {4, 5, 20, 21, 1012, 1013, 1020, 1021}, out = {3, 22, 1011, 1022, 0, -4, 1000, 1004, 2012, -1012};
    for (int total : in) {
      for (int d = 1; d <= 10; d += 9) {
        Due.isSo("worth() at " + total + " against " + d, x.worth(total, d, 0) != Due.VOID && x.worth(total, d, 3) != Due.VOID);
        Due.isSo("cost() at " + total + " against " + d, x.cost(total, d, 0) >= 0);
        Due.isSo("row() at " + total + " against " + d, x.row(total, d, 0) >= 0 && x.row(total, d, 1) >= 0);
      }
      for (int d = 0; d <= 11; d += 11) {
        Due.due("worth() at " + total + " against " + d, x.worth(total, d, 0), Due.VOID);
        Due.due("cost() at " + total + " against " + d, x.cost(total, d, 0), Due.VOID);
        Due.due("row() at " + total + " against " + d, x.row(total, d, 0), Due.VOID);
      }
    }
    for (int total : out) {
      Due.due("worth() at " + total, x.worth(total, 5, 0), Due.VOID);
      Due.due("cost() at " + total, x.cost(total, 5, 0), Due.VOID);
      Due.due("row() at " + total, x.row(total, 5, 0), Due.VOID);
    }
    Due.due("worth(.., 4)", x.worth(16, 5, 4), Due.VOID);
    Due.due("worth(.., -1)", x.worth(16, 5, -1), Due.VOID);
  }

  /** "A RULE's WORTH: WORTH of a whole SHOE by RULES as they are less that with that one as at first." */
  private static void ruledAtFirst() {
    CardsGone x = new CardsGone();
    for (int which = 0; which < 4; which++) Due.due("ruled(" + which + ") at first", x.ruled(which), 0);
    Due.due("ruled(-1)", x.ruled(-1), Due.VOID);
    Due.due("ruled(4)", x.ruled(4), Due.VOID);
    int[][] told = {{0, 1}, {1, 100}, {1, 200}, {2, 0}, {3, 15}, {3, 16}, {3, 18}, {3, 19}};
    int[] first = {0, 150, 1, 17};
    int atFirst = x.whole();
    for (int[] t : told) {
      x.rule(t[0], t[1]);
      Due.due("ruled(" + t[0] + ") at " + t[1], x.ruled(t[0]), x.whole() - atFirst);
      for (int which = 0; which < 4; which++) if (which != t[0]) Due.due("of another one", x.ruled(which), 0);
      x.rule(t[0], first[t[0]]);
      Due.due("ruled(" + t[0] + ") as at first again", x.ruled(t[0]), 0);
    }
  }

  private static void ruledLeavesTheRules() {
    CardsGone x = oneLeft(6);
    int[] told = {1, 120, 0, 15};
    for (int which = 0; which < 4; which++) x.rule(which, told[which]);
    int worth = x.whole(), changes = x.count(4);
    for (int which = 0; which < 4; which++) x.ruled(which);
    Due.due("whole() as it was", x.whole(), worth);
    Due.due("no CHANGE came", x.count(4), changes);
    for (int which = 0; which < 4; which++) Due.due("RULE " + which, x.rule(which, told[which]), told[which]);
    CardsGone whole = new CardsGone();
    for (int which = 0; which < 4; which++) whole.rule(which, told[which]);
    for (int which = 0; which < 4; which++) Due.due("by a whole SHOE, whatever is LEFT", x.ruled(which), whole.ruled(which));
  }

  /** "with a NATURAL of x, y: RULE 1 times 10000 times (one less ENDS 23 of d)": an ACE and a 10 LEFT. */
  private static void handsOfTwoValues() {
    CardsGone x = twoLeft(1, 10);
    Due.due("ENDS 23 of an ACE", x.ends(1, 23), ONE / 2);
    Due.due("ENDS 23 of a 10", x.ends(10, 23), ONE / 2);
    int without = 0, base = x.whole();
    for (int pays = 100; pays <= 200; pays += 10) {
      x.rule(1, pays);
      // half of the pairs of x and y are NATURALS, each of them half of the time against none
      Due.due("whole() with RULE 1 at " + pays, x.whole() - base, (pays - 150) * 10000 / 2 / 2);
      without = x.whole() - pays * 10000 / 4;
    }
    // without NATURALS: ACE, ACE (SOFT 12) and 10, 10 by BEST, less ENDS 23
    long other = 0;
    for (int d = 1; d <= 10; d += 9) {
      other += x.worth(1012, d, x.worth(1012, d, 3)) - x.ends(d, 23);
      other += x.worth(20, d, x.worth(20, d, 3)) - x.ends(d, 23);
    }
    Due.isSo("what the others are worth", Math.abs(other / 8 - without) <= 2);
    for (int v = 2; v <= 9; v++) {
      CardsGone y = twoLeft(v, 10);
      Due.due("ENDS 23 without an ACE LEFT", y.ends(10, 23) + y.ends(v, 23), 0);
      Due.due("ENDS 23 of an ACE with a 10 of two", y.ends(1, 23), ONE / 2);
    }
  }

  /** "VOID: no HANDS." - and one HAND has no pair. */
  private static void saysOfOneHand() {
    CardsGone x = new CardsGone();
    Due.due("says() at first", x.says(), Due.VOID);
    x.player(0, 9, 0);
    Due.due("says() of no HAND", x.says(), Due.VOID);
    x.play(0, 1);
    Due.due("says() of one HAND", x.says(), 0);
    x.play(0, 61);
    Due.due("says() behind a refused call", x.says(), 0);
    x.purse(0, 0);
    x.play(0, 1);
    Due.due("says() of a call without HANDS", x.says(), Due.VOID);
  }

  /** "both greater .. one is greater and the other one less": like ones count nothing. */
  private static void saysOfLikeOnes() {
    CardsGone x = new CardsGone();
    x.player(0, 999, 0);
    x.play(0, 20);
    Due.due("says() with all t 0", x.says(), 0);
    CardsGone y = new CardsGone();
    y.player(0, 999, 0);
    Due.text(y, 1, "1");
    y.shoe(2, 10);
    y.shoe(1, 1);
    y.play(0, 20);
    Due.due("says() with all of a whole SHOE", y.says(), 0);
    CardsGone z = new CardsGone();
    z.player(0, 999, 0);
    Due.text(z, 1, "1");
    z.play(0, 2);
    Due.due("t of both is 0", z.led(0, 5) + z.led(1, 5), 0);
    Due.due("says() then", z.says(), 0);
  }

  /** Two HANDS: 1 if the later one has both greater or both less, -1 if one of them alone is. */
  private static void saysOfTwoHands() {
    boolean[] came = new boolean[4];
    for (int seed = 0; seed < 60; seed++) {
      for (int sign = 0; sign < 2; sign++) {
        CardsGone x = new CardsGone();
        x.player(0, 999, 0);
        Due.text(x, 1, sign == 0 ? "9" : "-9");
        x.shoe(1, 1);
        x.shoe(2, 95);
        x.shoe(0, seed);
        x.play(0, 1);
        int worth = x.whole();
        CardsGone both = new CardsGone();
        both.player(0, 999, 0);
        Due.text(both, 1, sign == 0 ? "9" : "-9");
        both.shoe(1, 1);
        both.shoe(2, 95);
        both.shoe(0, seed);
        both.play(0, 2);
        int t = both.led(1, 5), more = Integer.compare(worth, new CardsGone().whole());
        Due.due("t of the second", t, x.left(13));
        Due.due("says() of two", both.says(), Integer.signum(t) * more);
        came[(t > 0 ? 2 : 0) + (more > 0 ? 1 : 0)] = true;
      }
    }
    for (int i = 0; i < 4; i++) Due.isSo("case " + i + " came", came[i]);
  }

  /** A SEED by which the first four cards are 10s, and behind one SHUFFLE more again. */
  private static int seedOfTensTwice() {
    for (int seed = 0; seed < 2000000; seed++) {
      if (tensComeFirst(seed) && tensComeFirst(Due.zBehind(1, seed))) return seed;
    }
    throw new IllegalStateException("no SEED");
  }

  private static boolean tensComeFirst(int z) {
    List<Integer> cards = Due.shuffled(1, z);
    for (int i = 1; i <= 4; i++) if (cards.get(i) != 10) return false;
    return true;
  }

  /** HANDS that begin with four 10s SEEN, all LEFT, four 10s SEEN: as TAGS became others, the first and the last have unlike t. */
  private static void saysOfLikeWorths() {
    CardsGone x = new CardsGone();
    x.player(0, 999, 0);
    Due.text(x, 0, "0");
    Due.text(x, 1, "1");
    x.shoe(1, 1);
    x.shoe(2, 12);
    x.shoe(0, seedOfTensTwice());
    x.play(0, 1);
    int worth = x.whole(), whole = new CardsGone().whole();
    Due.text(x, 1, "-1");
    x.play(0, 3);
    int[] t = {4, 0, -4};
    for (int h = 0; h < 3; h++) Due.due("t of HAND " + h, x.led(h, 5), t[h]);
    Due.isSo("WORTH is another one with four 10s SEEN", worth != whole);
    Due.due("says(): one pair for it, one against it, one of like WORTH", x.says(), 0);
    x.play(0, 1);
    Due.due("says() of one", x.says(), 0);
  }

  /** "(WORTH by what was LEFT then.)": not by what is, as PACKS, CUT, SEED are told behind the call. */
  private static void saysByWhatWasLeftThen() {
    CardsGone x = new CardsGone();
    x.player(0, 9999, 0);
    Due.text(x, 1, "v=1|v=10?-1;v<7");
    x.shoe(1, 1);
    x.shoe(2, 95);
    x.play(0, 30);
    int says = x.says();
    Due.isSo("says() is not 0", says != 0);
    int[][] told = {{0, 7}, {2, 20}, {1, 1}, {1, 8}};
    for (int[] t : told) {
      x.shoe(t[0], t[1]);
      Due.due("says() behind shoe(" + t[0] + ", " + t[1] + ")", x.says(), says);
    }
    Due.text(x, 1, "9");
    Due.due("says() behind other TAGS", x.says(), says);
    x.deep(0, 5, 3, 0);
    Due.due("says() behind deep()", x.says(), says);
  }
}
