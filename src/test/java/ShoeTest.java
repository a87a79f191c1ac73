import java.util.List;

/** Promises 1 to 4: a new object, the shoe, what is left, the rules. */
public final class ShoeTest {
  public static void main(String[] args) {
    newObject();
    shoeTold();
    cardsComeAsShuffled();
    shuffledAgainByCut();
    shuffledAsTold();
    stayTillNextHand();
    countAndTrueCount();
    misdeal();
    rules();
    Due.end();
  }

  private static void newObject() {
    CardsGone x = new CardsGone();
    Due.due("left(0) at first", x.left(0), 312);
    for (int v = 1; v <= 9; v++) Due.due("left(" + v + ") at first", x.left(v), 24);
    Due.due("left(10) at first", x.left(10), 96);
    for (int what = 11; what <= 13; what++) Due.due("left(" + what + ") at first", x.left(what), 0);
    for (int what = 0; what <= 5; what++) Due.due("count(" + what + ") at first", x.count(what), 0);
    Due.due("led(-1, 0) at first", x.led(-1, 0), 0);
    Due.due("limit(9999) at first", x.limit(9999), 9999);
    for (int shelf = 0; shelf < 6; shelf++) Due.due("taken() at first", x.taken(shelf, 0), -11);
    Due.due("undo() at first", x.undo(), CardsGone.STATE);
    Due.due("left(-1)", x.left(-1), Due.VOID);
    Due.due("left(14)", x.left(14), Due.VOID);
    Due.due("left of least", x.left(Integer.MIN_VALUE), Due.VOID);
  }

  private static void shoeTold() {
    CardsGone x = new CardsGone();
    Due.due("SEED at first", x.shoe(0, Integer.MIN_VALUE), 0);
    Due.due("SEED then", x.shoe(0, 7), Integer.MIN_VALUE);
    Due.due("PACKS at first", x.shoe(1, 8), 6);
    Due.due("PACKS then", x.shoe(1, 1), 8);
    Due.due("PACKS then", x.shoe(1, 1), 1);
    Due.due("CUT at first", x.shoe(2, 10), 75);
    Due.due("CUT then", x.shoe(2, 95), 10);
    int[][] bad = {{1, 0}, {1, 9}, {2, 9}, {2, 96}, {3, 1}, {-1, 1}, {1, Integer.MIN_VALUE}, {2, Integer.MAX_VALUE}};
    for (int[] b : bad) Due.due("shoe(" + b[0] + ", " + b[1] + ")", x.shoe(b[0], b[1]), Due.VOID);
    Due.due("CUT stays", x.shoe(2, 50), 95);
    Due.due("PACKS stay", x.shoe(1, 2), 1);
    Due.due("left(0) of two packs", x.left(0), 104);
    Due.due("left(10) of two packs", x.left(10), 32);
    Due.due("left(3) of two packs", x.left(3), 8);
  }

  private static void cardsComeAsShuffled() {
    for (int packs = 1; packs <= 8; packs += 7) {
      CardsGone x = new CardsGone();
      x.player(0, 99999, 0);
      x.shoe(1, packs);
      x.shoe(0, -99);
      Due.text(x, 0, "0");
      List<Integer> cards = Due.shuffled(packs, -99);
      x.play(0, 3);
      int place = 1;
      for (int h = 0; h < 3; h++) {
        int[] first = {x.led(h, 10), x.led(h, 30), x.led(h, 11), x.led(h, 31)};
        for (int card : first) Due.due("a card of hand " + h, card, cards.get(place++));
        for (int i = 2; i < x.led(h, 3); i++) Due.due("a dealer's card", x.led(h, 30 + i), cards.get(place++));
      }
      Due.due("how many are gone", x.left(12), place);
      Due.due("the BURNT one is left", x.left(0), packs * 52 - place + 1);
      int seven = 4 * packs;
      for (int i = 1; i < place; i++) if (cards.get(i) == 7) seven--;
      Due.due("sevens left", x.left(7), seven);
    }
  }

  private static void shuffledAgainByCut() {
    CardsGone x = new CardsGone();
    x.player(0, 99999, 0);
    x.shoe(1, 1);
    x.shoe(2, 10);
    x.shoe(0, 5);
    Due.text(x, 0, "0");
    x.play(0, 4);
    int z = 5;
    for (int h = 0; h < 4; h++) {
      Due.due("first card of each SHUFFLE", x.led(h, 10), Due.shuffled(1, z).get(1));
      Due.due("t is 0 behind a SHUFFLE", x.led(h, 5), 0);
      z = Due.zBehind(1, z);
    }
    // the 19 hundredths of 52 cards, cut, are 9: with 9 gone it is SHUFFLED, with 8 not
    boolean at9 = false, at8 = false;
    for (int seed = 0; seed < 200; seed++) {
      CardsGone y = new CardsGone();
      y.player(0, 99999, 0);
      y.shoe(1, 1);
      y.shoe(2, 19);
      y.shoe(0, seed);
      Due.text(y, 0, "0");
      y.play(0, 1);
      int gone = y.left(12);
      if (gone >= 9) continue;
      y.play(0, 1);
      int then = y.left(12);
      y.play(0, 1);
      boolean again = y.led(0, 10) == Due.shuffled(1, Due.zBehind(1, seed)).get(1) && y.left(12) < then;
      Due.due("SHUFFLED with " + then + " gone, seed " + seed, again ? 1 : 0, then >= 9 ? 1 : 0);
      at9 |= then >= 9;
      at8 |= gone < 9;
    }
    Due.isSo("both were tried", at9 && at8);
  }

  private static void shuffledAsTold() {
    for (int what = 0; what <= 2; what++) {
      CardsGone x = new CardsGone();
      x.player(0, 99999, 0);
      x.shoe(0, 77);
      x.play(0, 1);
      int now = what == 0 ? 77 : what == 1 ? 6 : 75;
      Due.due("shoe() told the same", x.shoe(what, now), now);
      x.play(0, 1);
      int z = what == 0 ? 77 : Due.zBehind(6, 77);
      Due.due("first card as " + what + " was told the same", x.led(0, 10), Due.shuffled(6, z).get(1));
      Due.due("gone then", x.left(12), 1 + x.led(0, 2) + x.led(0, 3));
    }
  }

  private static void stayTillNextHand() {
    CardsGone x = new CardsGone();
    x.player(0, 99999, 0);
    Due.text(x, 1, "1");
    x.play(0, 10);
    int left = x.left(0), gone = x.left(12);
    x.shoe(0, 9);
    x.shoe(2, 40);
    Due.due("left(0) as SEED and CUT are told", x.left(0), left);
    Due.due("left(11) as SEED and CUT are told", x.left(11), 312 - left);
    Due.due("left(12) as SEED and CUT are told", x.left(12), gone);
    x.shoe(1, 6);
    Due.due("left(0) as PACKS are told", x.left(0), 312);
    for (int what = 11; what <= 13; what++) Due.due("left(" + what + ") as PACKS are told", x.left(what), 0);
  }

  private static void countAndTrueCount() {
    CardsGone x = new CardsGone();
    x.player(2, 99999, 0);
    x.shoe(1, 2);
    Due.text(x, 1, "v=10|v=1?-1;v<7");
    int counted = 0;
    for (int i = 0; i < 8; i++) {
      x.play(0, 1);
      if (x.left(12) <= 1 + x.led(0, 2) + x.led(0, 3)) counted = 0;
      for (int k = 0; k < x.led(0, 2); k++) counted += tagged(x.led(0, 10 + k));
      for (int k = 0; k < x.led(0, 3); k++) counted += tagged(x.led(0, 30 + k));
      Due.due("COUNT", x.left(11), counted);
      Due.due("t", x.left(13), counted * 52 / x.left(0));
    }
    Due.text(x, 1, "9");
    Due.due("COUNT stays as TAGS change", x.left(11), counted);
  }

  private static int tagged(int v) {
    return v == 1 || v == 10 ? -1 : v < 7 ? 1 : 0;
  }

  private static void misdeal() {
    int found = 0;
    for (int seed = 0; seed < 400 && found < 3; seed++) {
      CardsGone x = new CardsGone();
      x.player(0, 99999, 0);
      x.shoe(1, 1);
      x.shoe(2, 95);
      x.shoe(0, seed);
      Due.text(x, 0, "p<18");
      Due.text(x, 1, "1");
      Due.text(x, 3, "7");
      for (int i = 0; i < 12; i++) {
        int purse = x.ofPlayer(0, 1), points = x.ofPlayer(0, 3);
        x.play(0, 1);
        if (x.led(0, 7) == 0) continue;
        found++;
        Due.due("a MISDEAL", x.led(0, 7), 1);
        Due.due("what a MISDEAL brings", x.led(0, 1), 0);
        Due.due("PURSE then", x.ofPlayer(0, 1), purse);
        Due.due("its points", x.ofPlayer(0, 3), points + 7);
        Due.due("all are gone", x.left(12), 52);
        Due.due("the hidden and the BURNT one are left", x.left(0), 2);
        Due.due("COUNT without them", x.left(11), 50);
        x.play(0, 1);
        Due.due("it is SHUFFLED then", x.left(12), 1 + x.led(0, 2) + x.led(0, 3));
        break;
      }
    }
    Due.due("how many MISDEALS were found", found, 3);
  }

  private static void rules() {
    CardsGone x = new CardsGone();
    int[][] good = {{0, 1, 0}, {0, 0, 1}, {1, 100, 150}, {1, 200, 100}, {2, 0, 1}, {2, 1, 0}, {3, 15, 17}, {3, 19, 15}};
    for (int[] g : good) Due.due("rule(" + g[0] + ", " + g[1] + ")", x.rule(g[0], g[1]), g[2]);
    int[][] bad = {{0, 2}, {0, -1}, {1, 99}, {1, 201}, {2, 2}, {2, -1}, {3, 14}, {3, 20}, {4, 1}, {-1, 1}};
    for (int[] b : bad) Due.due("rule(" + b[0] + ", " + b[1] + ")", x.rule(b[0], b[1]), CardsGone.BAD);
    Due.due("RULE 3 stays", x.rule(3, 17), 19);
  }
}
