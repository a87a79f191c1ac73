/** Promises 15 to 21: what is to be had by what is left. */
public final class LeftTest {
  public static void main(String[] args) {
    endsOfTheDealer();
    worths();
    costs();
    whole();
    rows();
    ruled();
    byWhatIsLeft();
    likeOnes();
    says();
    Due.end();
  }

  private static void endsOfTheDealer() {
    CardsGone x = new CardsGone();
    Due.due("a NATURAL from an ACE", x.ends(1, 23), 307692);
    Due.due("a NATURAL from a 10", x.ends(10, 23), 76923);
    for (int d = 2; d <= 9; d++) Due.due("a NATURAL from " + d, x.ends(d, 23), 0);
    Due.due("ends(6, 22)", x.ends(6, 22), 423149);
    Due.due("ends(6, 17)", x.ends(6, 17), 165437);
    for (int d = 1; d <= 10; d++) {
      Due.due("no end at 15", x.ends(d, 15), 0);
      Due.due("no end at 16", x.ends(d, 16), 0);
      int sum = 0;
      for (int end = 15; end <= 23; end++) sum += x.ends(d, end);
      Due.isSo("the ENDS are about a whole", sum > 999980 && sum <= 1000000);
    }
    int[][] bad = {{0, 17}, {11, 17}, {-1, 17}, {5, 14}, {5, 24}, {Integer.MIN_VALUE, Integer.MAX_VALUE}};
    for (int[] b : bad) Due.due("ends(" + b[0] + ", " + b[1] + ")", x.ends(b[0], b[1]), CardsGone.BAD);
    // with STANDS 19 the dealer ends at 19 from 9 by a 10; SOFT 19 is drawn to by RULE 0
    x.rule(3, 19);
    Due.due("no end at 18", x.ends(9, 18), 0);
    int without = x.ends(1, 19);
    x.rule(0, 1);
    Due.isSo("fewer at 19", x.ends(1, 19) < without);
    x.rule(3, 15);
    Due.isSo("ends at 15", x.ends(5, 15) > 0);
  }

  private static void worths() {
    CardsGone x = new CardsGone();
    int[][] due = {{16, 10, 0, -498858}, {16, 10, 1, -498299}, {16, 10, 2, -996598}, {16, 10, 3, 1}, {11, 6, 3, 2}, {1018, 9, 3, 1},
        {21, 5, 0, 891748}, {1021, 5, 1, 307348}, {4, 2, 3, 1}};
    for (int[] w : due) Due.due("worth(" + w[0] + ", " + w[1] + ", " + w[2] + ")", x.worth(w[0], w[1], w[2]), w[3]);
    for (int d = 1; d <= 10; d++) {
      int sum = 0;
      for (int end = 15; end <= 22; end++) sum += x.ends(d, end);
      Due.due("STAND at 12", x.worth(12, d, 0), 2 * x.ends(d, 22) - sum);
      Due.due("STAND at 20", x.worth(20, d, 0), sum - x.ends(d, 20) - 2 * x.ends(d, 21));
      Due.due("STAND at 21", x.worth(21, d, 0), sum - x.ends(d, 21));
      Due.due("DRAW at 21", x.worth(21, d, 1), -sum);
      Due.due("SOFT is as STAND", x.worth(1018, d, 0), x.worth(18, d, 0));
    }
    x.rule(2, 0);
    Due.due("BEST without RULE 2", x.worth(11, 6, 3), 1);
    Due.isSo("DOUBLE is told all the same", x.worth(11, 6, 2) > x.worth(11, 6, 1));
    int[][] bad = {{3, 1, 0}, {22, 1, 0}, {1011, 1, 0}, {1022, 1, 0}, {16, 0, 0}, {16, 11, 0}, {16, 5, -1}, {16, 5, 4}, {-16, 5, 0}};
    for (int[] b : bad) Due.due("worth() that is not as said", x.worth(b[0], b[1], b[2]), Due.VOID);
  }

  private static void costs() {
    CardsGone x = new CardsGone();
    Due.due("cost(16, 10, 0)", x.cost(16, 10, 0), 559);
    Due.due("cost(16, 10, 1)", x.cost(16, 10, 1), 0);
    Due.due("cost(11, 6, 0)", x.cost(11, 6, 0), 821074);
    Due.due("cost(11, 6, 2)", x.cost(11, 6, 2), 0);
    for (int d = 1; d <= 10; d++) {
      int best = x.worth(1013, d, x.worth(1013, d, 3));
      for (int play = 0; play <= 2; play++) {
        Due.due("COST at SOFT 13", x.cost(1013, d, play), best - x.worth(1013, d, play));
      }
    }
    int[][] bad = {{16, 5, 3}, {16, 5, -1}, {3, 5, 0}, {22, 5, 0}, {16, 11, 0}, {1011, 5, 0}};
    for (int[] b : bad) Due.due("cost() that is not as said", x.cost(b[0], b[1], b[2]), Due.VOID);
    int more = x.cost(11, 6, 1);
    x.rule(2, 0);
    Due.due("DOUBLE without RULE 2", x.cost(11, 6, 2), Due.VOID);
    Due.isSo("it is nothing that a draw lacks then", more > 0 && x.cost(11, 6, 1) == 0);
  }

  private static void whole() {
    CardsGone x = new CardsGone();
    Due.due("whole() at first", x.whole(), -10866);
    for (int packs = 1; packs <= 8; packs++) {
      x.shoe(1, packs);
      Due.due("whole() of " + packs, x.whole(), -10866);
    }
    x.rule(1, 120);
    Due.isSo("a NATURAL pays less", x.whole() < -10866);
  }

  private static void rows() {
    CardsGone x = new CardsGone();
    Due.due("row(13, 2, 0)", x.row(13, 2, 0), 0);
    Due.due("row(13, 2, 1)", x.row(13, 2, 1), 15009);
    Due.due("row(1013, 5, 0)", x.row(1013, 5, 0), 1);
    int[] totals = {4, 8, 9, 11, 12, 16, 17, 21, 1012, 1017, 1018, 1021};
    for (int mayDouble = 1; mayDouble >= 0; mayDouble--) {
      x.rule(2, mayDouble);
      for (int total : totals) {
        for (int d = 1; d <= 10; d++) {
          int best = x.row(total, d, 0);
          Due.due("THE ROW at " + total + " against " + d, best, x.worth(total, d, 3));
          int next = Integer.MAX_VALUE;
          for (int play = 0; play <= 1 + mayDouble; play++) if (play != best) next = Math.min(next, x.cost(total, d, play));
          Due.due("a LINE's WORTH at " + total + " against " + d, x.row(total, d, 1), next);
        }
      }
    }
    int[][] bad = {{3, 5, 0}, {22, 5, 0}, {1011, 5, 0}, {1022, 5, 0}, {16, 0, 0}, {16, 11, 0}, {16, 5, 2}, {16, 5, -1}};
    for (int[] b : bad) Due.due("row() that is not as said", x.row(b[0], b[1], b[2]), Due.VOID);
    x.player(0, 9999, 0);
    int was = x.row(16, 10, 1);
    x.play(0, 30);
    Due.due("THE ROW is of a whole SHOE", x.row(16, 10, 1), was);
  }

  private static void ruled() {
    CardsGone x = new CardsGone();
    for (int which = 0; which <= 3; which++) Due.due("ruled(" + which + ") at first", x.ruled(which), 0);
    x.rule(0, 1);
    Due.due("ruled(0)", x.ruled(0), -2164);
    x.rule(1, 120);
    Due.due("ruled(1)", x.ruled(1), -13529);
    x.rule(2, 0);
    Due.due("ruled(2)", x.ruled(2), -13395);
    x.rule(3, 16);
    Due.due("ruled(3)", x.ruled(3), 16969);
    for (int which = 0; which <= 3; which++) {
      int worth = x.whole(), is = x.rule(which, which == 1 ? 150 : which == 3 ? 17 : which == 2 ? 1 : 0);
      int other = x.whole();
      x.rule(which, is);
      Due.due("a RULE's WORTH of " + which, x.ruled(which), worth - other);
      Due.due("the RULE is as it was", x.rule(which, is), is);
    }
    Due.due("ruled(-1)", x.ruled(-1), Due.VOID);
    Due.due("ruled(4)", x.ruled(4), Due.VOID);
    x.player(0, 9999, 0);
    int was = x.ruled(1);
    x.play(0, 30);
    Due.due("a RULE's WORTH is of a whole SHOE", x.ruled(1), was);
  }

  private static void byWhatIsLeft() {
    CardsGone x = new CardsGone();
    x.player(0, 9999, 0);
    x.shoe(1, 1);
    x.shoe(2, 95);
    x.play(0, 3);
    Due.due("a NATURAL from an ACE", x.ends(1, 23), (int) (x.left(10) * 1000000L / x.left(0)));
    Due.due("a NATURAL from a 10", x.ends(10, 23), (int) (x.left(1) * 1000000L / x.left(0)));
    Model model = new Model();
    model.shoe(1, 1);
    for (int v = 1; v <= 10; v++) model.seen[v] = (v == 10 ? 16 : 4) - x.left(v);
    Due.due("WORTH of a HAND", x.whole(), model.whole());
    for (int d = 1; d <= 10; d++) Due.due("STAND at 17", x.worth(17, d, 0), model.worth(17, d, 0));
    for (int d = 1; d <= 10; d++) Due.due("COST at 12", x.cost(12, d, 1), model.cost(12, d, 1));
  }

  /** Behind a MISDEAL two cards are LEFT: by so few the plays are often of like WORTH, and the least is BEST. */
  private static void likeOnes() {
    int standAndDraw = 0, drawAndDouble = 0;
    for (int seed = 0; seed < 400 && (standAndDraw == 0 || drawAndDouble == 0); seed++) {
      CardsGone x = new CardsGone();
      x.player(0, 99999, 0);
      x.shoe(1, 1);
      x.shoe(2, 95);
      x.shoe(0, seed);
      for (int i = 0; i < 14 && x.left(0) != 2; i++) x.play(0, 1);
      if (x.left(0) != 2) continue;
      for (int total = 4; total <= 21; total++) {
        for (int d = 1; d <= 10; d++) {
          int stand = x.worth(total, d, 0), draw = x.worth(total, d, 1), twice = x.worth(total, d, 2);
          int most = Math.max(stand, Math.max(draw, twice));
          if (stand == most && draw == most) standAndDraw++;
          if (stand < most && draw == most && twice == most) drawAndDouble++;
          Due.due("BEST of like ones", x.worth(total, d, 3), stand == most ? 0 : draw == most ? 1 : 2);
        }
      }
    }
    Due.isSo("there were like ones", standAndDraw > 0 && drawAndDouble > 0);
  }

  /** The same HANDS are played apart one by one, so that what was LEFT ahead of each can be asked. */
  private static void says() {
    CardsGone x = counting(), apart = counting();
    Due.due("says() without HANDS", x.says(), Due.VOID);
    int many = 9;
    int[] t = new int[many];
    int[][] left = new int[many][11];
    x.play(0, many);
    for (int h = 0; h < many; h++) {
      for (int v = 1; v <= 10; v++) left[h][v] = apart.left(v);
      apart.play(0, 1);
      boolean shuffled = apart.left(12) == 1 + apart.led(0, 2) + apart.led(0, 3);
      for (int v = 1; v <= 10 && shuffled; v++) left[h][v] = v == 10 ? 16 : 4;
      t[h] = apart.led(0, 5);
      Due.due("t as it began", x.led(h, 5), t[h]);
    }
    int[] first = {0, 150, 1, 17}, other = {1, 110, 0, 19};
    Due.due("says()", x.says(), pairs(t, left, first));
    for (int i = 0; i < 4; i++) x.rule(i, other[i]);
    Due.due("says() by RULES as they are", x.says(), pairs(t, left, other));
    Due.isSo("they say another thing", pairs(t, left, first) != pairs(t, left, other));
    x.purse(0, 0);
    x.play(0, 1);
    Due.due("says() with no HANDS again", x.says(), Due.VOID);
  }

  private static CardsGone counting() {
    CardsGone x = new CardsGone();
    x.player(2, 9999, 0);
    x.shoe(1, 1);
    x.shoe(2, 95);
    Due.text(x, 1, "v=1|v=10?-1;v<7");
    return x;
  }

  private static int pairs(int[] t, int[][] left, int[] rules) {
    int sum = 0;
    for (int h = 0; h < t.length; h++) {
      for (int j = 0; j < h; j++) {
        long more = Model.wholeBy(left[h], rules) - Model.wholeBy(left[j], rules);
        sum += Integer.signum(t[h] - t[j]) * Long.signum(more);
      }
    }
    return sum;
  }
}
