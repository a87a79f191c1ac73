/** Promises 8 to 14: players, hands of the shoe, hands from a row. */
public final class PlayersTest {
  public static void main(String[] args) {
    playersCome();
    pursesAndLimits();
    whoPlaysOn();
    bets();
    barred();
    watches();
    strayedOrNot();
    feigned();
    ledCards();
    purseIsHeld();
    rowOfCards();
    rowThatLacks();
    rowAndState();
    longestHand();
    Due.end();
  }

  private static void playersCome() {
    CardsGone x = new CardsGone();
    int[][] bad = {{8, 0, 0}, {-1, 0, 0}, {0, -1, 0}, {0, 100000, 0}, {0, 0, 100}, {0, 0, -100}};
    for (int[] b : bad) Due.due("player() that is not as said", x.player(b[0], b[1], b[2]), CardsGone.BAD);
    for (int i = 0; i < 10; i++) Due.due("player " + i, x.player(i % 8, i == 1 ? 99999 : i, i == 2 ? -99 : 99), i);
    Due.due("an eleventh", x.player(0, 0, 0), CardsGone.FULL);
    Due.due("BAD ahead of FULL", x.player(8, 0, 0), CardsGone.BAD);
    Due.due("count(0)", x.count(0), 10);
    Due.due("KIND", x.ofPlayer(7, 0), 7);
    Due.due("PURSE", x.ofPlayer(1, 1), 9999900);
    Due.due("CALL", x.ofPlayer(2, 2), -99);
    for (int what = 3; what <= 5; what++) Due.due("ofPlayer(0, " + what + ")", x.ofPlayer(0, what), 0);
    int[][] none = {{0, 6}, {0, -1}, {10, 0}, {-1, 0}, {Integer.MAX_VALUE, 0}};
    for (int[] n : none) Due.due("ofPlayer() of none", x.ofPlayer(n[0], n[1]), Due.VOID);
  }

  private static void pursesAndLimits() {
    CardsGone x = new CardsGone();
    x.player(0, 50, 0);
    Due.due("purse(0, 99999)", x.purse(0, 99999), 5000);
    Due.due("purse(0, 0)", x.purse(0, 0), 9999900);
    int[][] bad = {{0, -1}, {0, 100000}, {1, 0}, {-1, 0}};
    for (int[] b : bad) Due.due("purse() that is not as said", x.purse(b[0], b[1]), CardsGone.BAD);
    Due.due("PURSE stays", x.ofPlayer(0, 1), 0);
    Due.due("limit(1)", x.limit(1), 9999);
    Due.due("limit(9999)", x.limit(9999), 1);
    Due.due("limit(0)", x.limit(0), CardsGone.BAD);
    Due.due("limit(10000)", x.limit(10000), CardsGone.BAD);
    Due.due("limit(9999)", x.limit(9999), 9999);
  }

  private static void whoPlaysOn() {
    CardsGone x = new CardsGone();
    x.player(0, 2, 0);
    int[][] bad = {{0, 0}, {0, 61}, {0, -1}, {1, 1}, {-1, 1}};
    for (int[] b : bad) Due.due("play() that is not as said", x.play(b[0], b[1]), Due.VOID);
    Due.due("left(12): no HAND began", x.left(12), 0);
    x.play(0, 1);
    for (int[] b : bad) Due.due("play() that is not as said", x.play(b[0], b[1]), Due.VOID);
    Due.due("LED stays then", x.led(-1, 0), 1);
    int purse = 200 + x.led(0, 1), sum = x.led(0, 1);
    Due.due("PURSE behind it", x.ofPlayer(0, 1), purse);
    for (int i = 0; i < 20 && purse >= 100; i++) {
      int brought = x.play(0, 60);
      sum = 0;
      for (int h = 0; h < x.led(-1, 0); h++) sum += x.led(h, 1);
      Due.due("what they brought", brought, sum);
      purse += brought;
      Due.isSo("60, or fewer with PURSE out", x.led(-1, 0) == 60 || purse < 100);
      Due.due("PURSE", x.ofPlayer(0, 1), purse);
    }
    x.purse(0, 0);
    int gone = x.left(12), hands = x.ofPlayer(0, 5);
    Due.due("play() with nothing", x.play(0, 5), 0);
    Due.due("no HAND is LED", x.led(-1, 0), 0);
    Due.due("nothing came", x.left(12), gone);
    Due.due("HANDS as before", x.ofPlayer(0, 5), hands);
  }

  private static void bets() {
    Due.due("without a TEXT", betOf(0, 100, 0, null), 1);
    Due.due("held at 99", betOf(0, 1000, 0, "500"), 99);
    Due.due("held at 1", betOf(0, 1000, 0, "0-5"), 1);
    Due.due("no more than PURSE", betOf(0, 7, 0, "99"), 7);
    Due.due("SIGNALLING", betOf(4, 100, 0, "50"), 1);
    Due.due("BIG at its CALL", betOf(5, 100, 0, "50"), 50);
    Due.due("BIG below its CALL", betOf(5, 100, 1, "50"), 0);
    Due.due("FEIGNED below its CALL", betOf(7, 100, 1, "50"), 0);
    Due.due("FEIGNED above its CALL", betOf(7, 100, -1, "50"), 50);
    Due.due("COUNTING asks no CALL", betOf(2, 100, 99, "50"), 50);
    Due.due("LUMP asks no CALL", betOf(6, 100, 99, "50"), 50);
    CardsGone x = new CardsGone();
    for (int kind = 0; kind < 8; kind++) x.player(kind, 10000, -99);
    Due.text(x, 1, "1");
    Due.text(x, 2, "c+10*t+1");
    x.play(0, 10);
    for (int kind = 0; kind < 8; kind++) {
      int c = x.left(11), t = x.left(13);
      x.play(kind, 1);
      boolean sees = kind == 2 || kind == 3 || kind == 5 || kind == 7;
      Due.isSo("COUNT is above 0", c > 0 && t > 0);
      Due.due("c and t for KIND " + kind, x.led(0, 0), sees ? Math.min(99, c + 10 * t + 1) : 1);
      Due.due("t as it began", x.led(0, 5), t);
    }
  }

  private static int betOf(int kind, int purse, int call, String bets) {
    CardsGone x = new CardsGone();
    x.player(kind, purse, call);
    if (bets != null) Due.text(x, 2, bets);
    x.play(0, 1);
    return x.led(0, 0);
  }

  private static void barred() {
    CardsGone x = new CardsGone();
    x.player(0, 9999, 0);
    Due.text(x, 3, "40");
    x.limit(100);
    x.play(0, 10);
    Due.due("HANDS till it is BARRED", x.led(-1, 0), 3);
    Due.due("points", x.ofPlayer(0, 3), 120);
    Due.due("BARRED", x.ofPlayer(0, 4), 1);
    x.limit(120);
    Due.due("at LIMIT it is BARRED", x.ofPlayer(0, 4), 1);
    x.limit(121);
    Due.due("below LIMIT it is not", x.ofPlayer(0, 4), 0);
    x.play(0, 10);
    Due.due("one more", x.led(-1, 0), 1);
    Due.due("HANDS played", x.ofPlayer(0, 5), 4);
    x.undo();
    Due.due("LIMIT undone", x.ofPlayer(0, 4), 1);
  }

  private static void watches() {
    CardsGone x = new CardsGone();
    x.player(2, 99999, 0);
    Due.text(x, 2, "c*c%7+2");
    Due.text(x, 1, "v<7");
    Due.text(x, 3, "b*10+l");
    x.play(0, 20);
    for (int h = 0; h < 20; h++) {
      Due.due("points of b and l", x.led(h, 6), Math.min(99, x.led(h, 0) * 10 + (h == 0 ? 0 : x.led(h - 1, 0))));
    }
    int last = x.led(19, 0);
    x.play(0, 1);
    Due.due("l over calls", x.led(0, 6), Math.min(99, x.led(0, 0) * 10 + last));
    Due.text(x, 3, "r+50");
    x.play(0, 30);
    for (int h = 0; h < 30; h++) Due.due("points of r", x.led(h, 6), Math.max(0, Math.min(99, x.led(h, 1) / 100 + 50)));
    Due.text(x, 3, "t+c+20");
    int c = x.left(11), t = x.left(13);
    x.play(0, 1);
    if (x.led(0, 2) + x.led(0, 3) + 1 == x.left(12)) c = t = 0;
    Due.due("points of t and c as it began", x.led(0, 6), Math.max(0, Math.min(99, t + c + 20)));
    Due.text(x, 3, "0-9");
    x.play(0, 1);
    Due.due("points held at 0", x.led(0, 6), 0);
    Due.text(x, 3, "1000");
    x.play(0, 1);
    Due.due("points held at 99", x.led(0, 6), 99);
  }

  private static void strayedOrNot() {
    CardsGone x = new CardsGone();
    x.player(0, 99999, 0);
    x.player(0, 99999, 0);
    Due.text(x, 3, "w*5");
    Due.text(x, 0, "p<22");
    x.play(0, 60);
    int strayed = 0, plain = 0;
    for (int h = 0; h < 60; h++) {
      Due.due("points by w", x.led(h, 6), 5 * x.led(h, 8));
      if (x.led(h, 8) == 1) strayed++;
      if (x.led(h, 4) == 0) Due.due("w without a play", x.led(h, 8), 0);
      if (x.led(h, 8) == 0 && x.led(h, 4) > 0) plain++;
    }
    Due.isSo("who draws at all that is below 22 strays, not always", strayed > 10 && plain > 0);
    // BEST by a whole SHOE as PLAY for one HAND behind each SHUFFLE: no play of two cards is another one
    for (int seed = 1; seed <= 40; seed++) {
      x.shoe(0, seed);
      Due.text(x, 0, "0");
      x.play(0, 1);
      if (x.led(0, 4) != 1) continue;
      int a = x.led(0, 10), b = x.led(0, 11);
      int total = (a == 1 || b == 1) ? 1010 + a + b : a + b;
      Due.due("w of a stand", x.led(0, 8), x.row(total, x.led(0, 30), 0) == 0 ? 0 : 1);
      x.shoe(0, seed);
      Due.text(x, 0, "2");
      x.rule(2, 1);
      x.play(0, 1);
      Due.due("w of a DOUBLE", x.led(0, 8), x.row(total, x.led(0, 30), 0) == 2 ? 0 : 1);
      x.shoe(0, seed);
      x.rule(2, 0);
      Due.text(x, 0, "n=2?2");
      x.play(0, 1);
      if (x.led(0, 4) == 1) {
        Due.due("w of a DOUBLE that is a draw", x.led(0, 8), x.row(total, x.led(0, 30), 0) == 1 ? 0 : 1);
      }
      x.rule(2, 1);
    }
  }

  private static void feigned() {
    CardsGone x = new CardsGone();
    x.player(7, 99999, -99);
    x.player(7, 99999, 99);
    Due.text(x, 0, "0");
    x.play(0, 12);
    for (int h = 0; h < 12; h++) {
      if (x.led(h, 4) == 0) continue;
      boolean turned = h % 3 == 2;
      Due.isSo("a stand of hand " + h, x.led(h, 2) == (turned ? 3 : 2));
    }
    Due.text(x, 0, "2");
    x.play(1, 12);
    for (int h = 0; h < 12; h++) {
      Due.due("BET below CALL", x.led(h, 0), 0);
      Due.due("what BET 0 brings", x.led(h, 1), 0);
      if (x.led(h, 4) == 0) continue;
      Due.isSo("a DOUBLE of hand " + h, x.led(h, 2) == (h % 3 == 2 ? 2 : 3) && x.led(h, 4) == 1);
    }
    Due.due("HANDS played", x.ofPlayer(1, 5), 12);
  }

  private static void ledCards() {
    CardsGone x = new CardsGone();
    x.player(0, 99999, 0);
    Due.text(x, 0, "p<17");
    x.play(0, 40);
    for (int h = 0; h < 40; h++) {
      int mine = x.led(h, 2), theirs = x.led(h, 3);
      Due.isSo("cards are there", x.led(h, 9 + mine) >= 1 && x.led(h, 29 + theirs) >= 1);
      Due.due("a card that is not there", x.led(h, 10 + mine), Due.VOID);
      Due.due("a dealer's card that is not there", x.led(h, 30 + theirs), Due.VOID);
    }
    int[][] bad = {{40, 0}, {-2, 0}, {-1, 1}, {0, 9}, {0, -1}, {0, 50}, {0, 29}, {0, 49}, {Integer.MIN_VALUE, 0}, {0, Integer.MAX_VALUE}};
    for (int[] b : bad) Due.due("led(" + b[0] + ", " + b[1] + ")", x.led(b[0], b[1]), Due.VOID);
    Due.due("led(-1, 0)", x.led(-1, 0), 40);
  }

  private static void purseIsHeld() {
    boolean below = false, above = false;
    for (int seed = 0; seed < 60 && !(below && above); seed++) {
      CardsGone x = new CardsGone();
      x.player(0, 10, 0);
      x.player(0, 99999, 0);
      x.shoe(0, seed);
      Due.text(x, 0, "2");
      Due.text(x, 2, "10");
      x.play(0, 1);
      if (x.led(0, 1) == -2000) {
        below = true;
        Due.due("PURSE is held at 0", x.ofPlayer(0, 1), 0);
      }
      int brought = x.play(1, 1);
      if (brought > 0) {
        above = true;
        Due.due("PURSE is held at the most", x.ofPlayer(1, 1), 9999900);
      }
      Due.due("led(0, 1) is not held", x.led(0, 1), brought);
    }
    Due.isSo("both came", below && above);
  }

  /** What a player of KIND 0 brings with such VALUES and such a TEXT of PLAY. */
  private static int brings(String plays, int... values) {
    CardsGone x = new CardsGone();
    x.player(0, 0, 0);
    if (plays != null) Due.text(x, 0, plays);
    Due.row(x, 0, values);
    return x.hand(0, 0, 0);
  }

  private static void rowOfCards() {
    Due.due("both NATURALS", brings(null, 1, 10, 10, 1), 0);
    Due.due("the player's", brings(null, 10, 9, 1, 9), 150);
    Due.due("the dealer's with an ACE", brings(null, 10, 1, 10, 10), -100);
    Due.due("the dealer's with a 10", brings("1", 5, 10, 6, 1), -100);
    Due.due("a stand at 17, the dealer's 17", brings(null, 10, 10, 7, 7), 0);
    Due.due("a draw at 16 to above 21", brings(null, 10, 10, 6, 7, 6), -100);
    Due.due("a draw at 16 to 21, dealer 20", brings(null, 10, 10, 6, 10, 5), 100);
    Due.due("21 is not drawn to", brings("1", 10, 10, 6, 10, 5, 10), 100);
    Due.due("the dealer above 21", brings("0", 2, 10, 2, 6, 10), 100);
    Due.due("the dealer stands at 17", brings("0", 10, 10, 8, 7), 100);
    Due.due("the dealer stands at SOFT 17", brings("0", 10, 1, 8, 6), 100);
    Due.due("the dealer draws at 16", brings("0", 10, 10, 8, 6, 2), 0);
    Due.due("a DOUBLE that is won", brings("2", 5, 6, 6, 10, 10, 10), 200);
    Due.due("a DOUBLE that is lost", brings("2", 5, 10, 6, 9, 2), -200);
    Due.due("a DOUBLE above 21", brings("2", 10, 10, 6, 9, 10), -200);
    Due.due("a DOUBLE that is like", brings("2", 5, 10, 6, 9, 8), 0);
    Due.due("a DOUBLE of three is a draw", brings("n<3?1;n<4?2", 2, 10, 3, 9, 4, 10), 0);
    Due.due("it goes on behind that draw", brings("n<3?1;p<20?2", 2, 10, 3, 9, 4, 5, 6), 100);
    Due.due("another number stands", brings("3", 10, 10, 8, 7), 100);
    Due.due("less than 0 stands", brings("0-1", 10, 10, 8, 7), 100);
    Due.due("an ACE counts 1 above 11", brings("1", 10, 10, 5, 9, 1, 5), 100);
    CardsGone x = new CardsGone();
    x.player(0, 0, 0);
    Due.text(x, 0, "2");
    x.rule(2, 0);
    Due.row(x, 0, 5, 10, 6, 9, 2, 8);
    Due.due("DOUBLE without RULE 2 is a draw that goes on", x.hand(0, 0, 0), 100);
    x.rule(1, 200);
    Due.row(x, 0, 1, 10, 10, 9);
    Due.due("RULE 1", x.hand(0, 0, 0), 200);
    x.rule(0, 1);
    Due.text(x, 0, "0");
    Due.row(x, 0, 10, 1, 9, 6, 3);
    Due.due("RULE 0", x.hand(0, 0, 0), -100);
    x.rule(3, 16);
    Due.row(x, 0, 10, 10, 7, 6, 3);
    Due.due("RULE 3", x.hand(0, 0, 0), 100);
    Due.row(x, 0, 3, 3, 10, 9, 7, 6, 2);
    Due.text(x, 0, "p<20");
    Due.due("from place 1 on: 3, 9, 6, 2 against 17", x.hand(0, 0, 1), 100);
  }

  private static void rowThatLacks() {
    CardsGone x = new CardsGone();
    x.player(0, 50, 0);
    Due.due("hand() of an empty shelf", x.hand(0, 3, 0), -999999);
    Due.row(x, 0, 10, 10, 9, 9, 10);
    Due.due("as it is", x.hand(0, 0, 0), 0);
    int[] places = {-1, 2, 5, 6, Integer.MAX_VALUE, Integer.MIN_VALUE};
    for (int place : places) Due.due("hand() from " + place, x.hand(0, 0, place), -999999);
    Due.due("from 1 on: 10 and 9 against 9 and 10", x.hand(0, 0, 1), 0);
    int[] values = {0, 11, -1, 127, -128};
    for (int v : values) {
      Due.row(x, 0, 10, 10, 9, v);
      Due.due("hand() with " + v, x.hand(0, 0, 0), -999999);
    }
    Due.row(x, 0, 10, 6, 10, 9);
    Due.due("a row that ends as the dealer draws", x.hand(0, 0, 0), -999999);
    Due.row(x, 0);
    Due.due("an empty row", x.hand(0, 0, 0), -999999);
    for (int sort = 1; sort <= 4; sort++) {
      x.lay(1, sort, 9);
      Due.due("a row of sort " + sort, x.hand(0, 1, 0), -12);
    }
    x.keep(1, 0);
    Due.due("a player on the shelf", x.hand(0, 1, 0), -12);
    int[][] bad = {{1, 0}, {-1, 0}, {0, 6}, {0, -1}};
    for (int[] b : bad) Due.due("hand(" + b[0] + ", " + b[1] + ")", x.hand(b[0], b[1], 0), Due.VOID);
  }

  private static void rowAndState() {
    CardsGone x = new CardsGone();
    x.player(2, 5000, 0);
    x.player(7, 5000, 0);
    x.player(1, 5000, 0);
    Due.text(x, 1, "1");
    x.play(0, 5);
    x.play(1, 2);
    int c = x.left(11), t = x.left(13), left = x.left(0), purse = x.ofPlayer(0, 1), hands = x.ofPlayer(1, 5);
    int hand0 = x.led(0, 1), card = x.led(0, 10);
    Due.row(x, 0, 10, 9, 6, 10, 5);
    Due.text(x, 0, "c=" + c + "&t=" + t);
    Due.due("COUNTING sees COUNT as it is", x.hand(0, 0, 0), 100);
    Due.due("PLAIN does not", x.hand(2, 0, 0), -100);
    Due.text(x, 0, "0");
    Due.row(x, 0, 10, 10, 9, 7, 5);
    Due.due("FEIGNED is not turned about", x.hand(1, 0, 0), 100);
    Due.due("COUNT stays", x.left(11), c);
    Due.due("LEFT stays", x.left(0), left);
    Due.due("PURSE stays", x.ofPlayer(0, 1), purse);
    Due.due("HANDS stay", x.ofPlayer(1, 5), hands);
    Due.due("it is not LED", x.led(-1, 0), 2);
    Due.due("LED stays", x.led(0, 1), hand0);
    Due.due("LED stays", x.led(0, 10), card);
  }

  /** Ten ACES, a 2 and eight ACES are 20; one card more is the twentieth. */
  private static void longestHand() {
    int[] values = new int[24];
    java.util.Arrays.fill(values, 1);
    values[1] = 10;
    values[3] = 9;
    values[12] = 2;
    values[21] = 1;
    Due.due("twenty cards are 21", brings("1", values), 100);
    values[21] = 2;
    Due.due("twenty cards are 22", brings("1", values), -100);
  }
}
