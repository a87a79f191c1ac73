/** Section 2 of the document, PLAYERS, at its edges; promises 8 to 14. */
public final class PlayerEdgesTest {
  public static void main(String[] args) {
    numbersAsTheyCome();
    pursesAndCallsAtTheirBounds();
    whoSeesWhat();
    signallingBetsOne();
    callAndOneBelow();
    callAtItsBounds();
    nobodyBetsMoreThanThePurse();
    everyThirdHandIsTurned();
    thirdHandsGoOnOverCalls();
    doublesThatAreTurned();
    handsInACall();
    endsBelowAHundred();
    endsBelowAHundredWithBetNone();
    purseHeldAtNone();
    purseHeldAtTheMost();
    barredFromTheLimitOn();
    limitAsItIs();
    limitAtItsBounds();
    tellingsLeaveThePlayer();
    strayedByTwoCards();
    strayedByThree();
    strayedByWhatWasLeftAsItBegan();
    strayedByRulesAsItBegan();
    ledOfTheLatestCall();
    ledCardsThatAreThere();
    handForAKind();
    Due.end();
  }

  private static CardsGone with(int kind, int purse, int call) {
    CardsGone x = new CardsGone();
    x.player(kind, purse, call);
    return x;
  }

  /** "PLAYERS 0 .. 9, as they come" */
  private static void numbersAsTheyCome() {
    CardsGone x = new CardsGone();
    Due.due("count(0)", x.count(0), 0);
    Due.due("ofPlayer(0, 0) of none", x.ofPlayer(0, 0), Due.VOID);
    for (int i = 0; i < 10; i++) {
      Due.due("a refused one takes no number", x.player(-1, 0, 0), CardsGone.BAD);
      Due.due("the number", x.player(7 - i % 8, 3 * i, 9 - i), i);
      Due.due("count(0)", x.count(0), i + 1);
      Due.due("KIND", x.ofPlayer(i, 0), 7 - i % 8);
      Due.due("PURSE", x.ofPlayer(i, 1), 300 * i);
      Due.due("CALL", x.ofPlayer(i, 2), 9 - i);
      for (int what = 3; what <= 5; what++) Due.due("ofPlayer(.., " + what + ") at first", x.ofPlayer(i, what), 0);
      Due.due("the next is not there", x.ofPlayer(i + 1, 0), Due.VOID);
    }
    Due.due("an eleventh", x.player(0, 0, 0), CardsGone.FULL);
    Due.due("count(0)", x.count(0), 10);
  }

  /** "a PURSE (hundredths, 0 .. 9999900), a CALL (-99 .. 99)"; KINDS 0 .. 7. */
  private static void pursesAndCallsAtTheirBounds() {
    CardsGone x = new CardsGone();
    int[][] good = {{0, 0, 0}, {7, 0, 0}, {0, 99999, 0}, {0, 0, -99}, {0, 0, 99}};
    for (int i = 0; i < good.length; i++) Due.due("a player", x.player(good[i][0], good[i][1], good[i][2]), i);
    int[][] bad = {{-1, 0, 0}, {8, 0, 0}, {0, -1, 0}, {0, 100000, 0}, {0, 0, -100}, {0, 0, 100}};
    for (int[] b : bad) Due.due("none", x.player(b[0], b[1], b[2]), CardsGone.BAD);
    Due.due("the greatest PURSE", x.ofPlayer(2, 1), 9999900);
    Due.due("the least CALL", x.ofPlayer(3, 2), -99);
    Due.due("the greatest CALL", x.ofPlayer(4, 2), 99);
    int[][] told = {{0, 0}, {99999, 0}, {100000, CardsGone.BAD}, {-1, CardsGone.BAD}, {99998, 9999900}, {1, 9999800}, {0, 100}};
    for (int[] t : told) Due.due("purse(0, " + t[0] + ")", x.purse(0, t[0]), t[1]);
  }

  /** "COUNTING, SIDE, SIGNALLING, BIG and FEIGNED see c and t (others 0), SIDE s as well (others 0)" - in PLAY and in BETS. */
  private static void whoSeesWhat() {
    for (int kind = 0; kind < 8; kind++) {
      CardsGone x = with(kind, 5000, -99);
      Due.text(x, 0, "0");
      Due.text(x, 1, "1");
      x.play(0, 9);
      int c = x.left(11), t = x.left(13), s = x.left(1);
      boolean sees = kind >= 2 && kind <= 5 || kind == 7;
      Due.isSo("all are above 1", c > 1 && t > 1 && s > 1);
      Due.row(x, 0, 10, 10, 6, 7, 5);
      int[] values = {c, t, s};
      for (int i = 0; i < 3; i++) {
        boolean seesIt = i < 2 ? sees : kind == 3;
        Due.text(x, 0, "cts".charAt(i) + "=" + values[i]);
        Due.due("cts".charAt(i) + " in PLAY of KIND " + kind, x.hand(0, 0, 0), seesIt ? 100 : -100);
        Due.text(x, 0, "cts".charAt(i) + "=0");
        Due.due("cts".charAt(i) + " as 0 in PLAY of KIND " + kind, x.hand(0, 0, 0), seesIt ? -100 : 100);
      }
      Due.text(x, 2, "c+t+s+1");
      x.play(0, 1);
      int bet = kind == 4 ? 1 : 1 + (sees ? c + t : 0) + (kind == 3 ? s : 0);
      Due.due("BET of KIND " + kind, x.led(0, 0), Math.min(99, bet));
    }
  }

  /** "SIGNALLING bets 1 always" - but nobody more than PURSE has units. */
  private static void signallingBetsOne() {
    String[] bets = {"99", "0", "2", "t", "b"};
    for (String text : bets) {
      CardsGone x = with(4, 5000, 99);
      Due.text(x, 2, text);
      x.play(0, 2);
      Due.due("BET of SIGNALLING by " + text, x.led(1, 0), 1);
    }
  }

  /** "BIG and FEIGNED 0, if t is below CALL" */
  private static void callAndOneBelow() {
    int[] kinds = {5, 7};
    for (int kind : kinds) {
      for (int tag = -1; tag <= 1; tag += 2) {
        CardsGone x = with(0, 5000, 0);
        Due.text(x, 1, tag < 0 ? "-1" : "1");
        x.play(0, 12);
        int t = x.left(13);
        Due.isSo("t is not 0", t * tag > 0);
        for (int more = -1; more <= 1; more++) {
          CardsGone y = with(0, 5000, 0);
          Due.text(y, 1, tag < 0 ? "-1" : "1");
          Due.text(y, 2, "5");
          y.play(0, 12);
          y.player(kind, 100, t + more);
          y.play(1, 1);
          Due.due("t as it began", y.led(0, 5), t);
          Due.due("BET of KIND " + kind + " with CALL " + more + " more than t", y.led(0, 0), more > 0 ? 0 : 5);
        }
      }
    }
    for (int kind = 0; kind < 8; kind++) {
      CardsGone x = with(kind, 100, 1);
      Due.text(x, 2, "5");
      x.play(0, 1);
      Due.due("BET of KIND " + kind + " with t 0 and CALL 1", x.led(0, 0), kind == 4 ? 1 : kind == 5 || kind == 7 ? 0 : 5);
    }
  }

  private static void callAtItsBounds() {
    int[] calls = {-99, 0, 1, 99};
    for (int call : calls) {
      CardsGone x = with(5, 100, call);
      Due.text(x, 2, "5");
      x.play(0, 1);
      Due.due("BET of BIG with t 0 and CALL " + call, x.led(0, 0), call > 0 ? 0 : 5);
    }
    // two cards are LEFT of which the rest counts 9 each: t is far above 99
    CardsGone x = with(0, 5000, 0);
    x.player(5, 5000, 99);
    Due.text(x, 0, "0");
    Due.text(x, 1, "9");
    Due.text(x, 2, "5");
    x.shoe(1, 1);
    x.shoe(2, 95);
    for (int i = 0; i < 12 && x.left(13) < 99; i++) x.play(0, 1);
    Due.isSo("t is 99 or more", x.left(13) >= 99);
    x.play(1, 1);
    Due.due("BET with t above CALL 99", x.led(0, 0), 5);
  }

  /** "Nobody bets more than PURSE has units (cut; what a DOUBLE brings may be more ..)" */
  private static void nobodyBetsMoreThanThePurse() {
    for (int kind = 0; kind < 8; kind++) {
      for (int purse = 6; purse <= 8; purse++) {
        CardsGone x = with(kind, purse, -99);
        Due.text(x, 2, "7");
        x.play(0, 1);
        Due.due("BET of KIND " + kind + " with " + purse, x.led(0, 0), kind == 4 ? 1 : Math.min(7, purse));
      }
    }
    CardsGone x = with(0, 1, 0);
    x.rule(1, 199);
    Due.text(x, 0, "0");
    Due.text(x, 2, "99");
    Due.deal(x, 1, 9, 10, 9);
    x.play(0, 1);
    Due.due("PURSE", x.ofPlayer(0, 1), 299);
    Due.deal(x, 10, 10, 9, 9);
    x.play(0, 1);
    Due.due("BET with 299 hundredths", x.led(0, 0), 2);
    Due.due("what like ones leave", x.ofPlayer(0, 1), 299);
    x.purse(0, 3);
    Due.text(x, 0, "2");
    Due.deal(x, 6, 10, 5, 9, 10);
    Due.due("a DOUBLE brings more than PURSE had", x.play(0, 1), 600);
    Due.due("PURSE then", x.ofPlayer(0, 1), 900);
  }

  /** "in each third HAND that it plays (its 3rd, 6th, .., those with BET 0 as well) the first play is turned about" */
  private static void everyThirdHandIsTurned() {
    for (int call = -99; call <= 99; call += 198) {
      CardsGone x = with(7, 5000, call);
      for (int h = 1; h <= 12; h++) {
        boolean turned = h % 3 == 0;
        Due.text(x, 0, "0");
        Due.deal(x, 2, 10, 3, 7, 4);
        x.play(0, 1);
        Due.due("BET", x.led(0, 0), call < 0 ? 1 : 0);
        Due.due("cards of HAND " + h + " that stands", x.led(0, 2), turned ? 3 : 2);
        Due.due("plays", x.led(0, 4), turned ? 2 : 1);
      }
      for (int h = 13; h <= 18; h++) {
        boolean turned = h % 3 == 0;
        Due.text(x, 0, "n<4");
        Due.deal(x, 2, 10, 3, 7, 4, 2);
        x.play(0, 1);
        Due.due("cards of HAND " + h + " that draws", x.led(0, 2), turned ? 2 : 4);
        Due.due("plays", x.led(0, 4), turned ? 1 : 3);
      }
      // a third HAND of which there is no play counts all the same
      Due.text(x, 0, "0");
      int[][] cards = {{2, 10, 3, 7, 4}, {2, 10, 3, 7, 4}, {1, 9, 10, 9}, {2, 10, 3, 7, 4}, {2, 10, 3, 7, 4}, {2, 10, 3, 7, 4}};
      int[] due = {2, 2, 2, 2, 2, 3};
      for (int i = 0; i < 6; i++) {
        Due.deal(x, cards[i]);
        x.play(0, 1);
        Due.due("cards of HAND " + (19 + i), x.led(0, 2), due[i]);
      }
    }
    for (int kind = 0; kind < 7; kind++) {
      CardsGone x = with(kind, 5000, -99);
      Due.text(x, 0, "0");
      x.play(0, 12);
      for (int h = 0; h < 12; h++) Due.due("KIND " + kind + " turns nothing about", x.led(h, 2), 2);
    }
  }

  private static void thirdHandsGoOnOverCalls() {
    CardsGone x = with(7, 5000, -99);
    x.player(7, 5000, -99);
    Due.text(x, 0, "0");
    int[] calls = {1, 4, 2, 5};
    int played = 0;
    for (int n : calls) {
      x.play(0, n);
      for (int h = 0; h < n; h++) {
        played++;
        if (x.led(h, 4) > 0) Due.due("cards of HAND " + played, x.led(h, 2), played % 3 == 0 ? 3 : 2);
      }
      Due.due("HANDS played", x.ofPlayer(0, 5), played);
    }
    x.play(1, 3);
    for (int h = 0; h < 3; h++) if (x.led(h, 4) > 0) Due.due("another one's HAND " + (h + 1), x.led(h, 2), h == 2 ? 3 : 2);
  }

  /** "a draw (or a DOUBLE) is a stand, a stand a draw" */
  private static void doublesThatAreTurned() {
    String[] plays = {"2", "1", "0", "3", "-1"};
    for (int mayDouble = 0; mayDouble <= 1; mayDouble++) {
      for (String text : plays) {
        CardsGone x = with(7, 5000, -99);
        x.rule(2, mayDouble);
        x.play(0, 2);
        Due.text(x, 0, "n=2?" + text + ";0");
        Due.deal(x, 2, 10, 3, 7, 4);
        int brought = x.play(0, 1);
        boolean draws = text.equals("1") || text.equals("2");
        Due.due("cards as " + text + " is turned about", x.led(0, 2), draws ? 2 : 3);
        Due.due("BET once", brought, -100);
        Due.due("plays", x.led(0, 4), draws ? 1 : 2);
      }
    }
  }

  /** "A PLAYER PLAYS n HANDS (1 .. 60)" */
  private static void handsInACall() {
    CardsGone x = with(0, 99999, 0);
    int played = 0;
    int[] good = {1, 2, 59, 60};
    for (int n : good) {
      int purse = x.ofPlayer(0, 1), brought = x.play(0, n), sum = 0;
      played += n;
      Due.due("HANDS of play(0, " + n + ")", x.led(-1, 0), n);
      Due.due("HANDS played", x.ofPlayer(0, 5), played);
      Due.due("the last is LED", x.led(n - 1, 7), 0);
      Due.due("none behind it", x.led(n, 7), Due.VOID);
      for (int h = 0; h < n; h++) sum += x.led(h, 1);
      Due.due("what they brought", brought, sum);
      Due.isSo("PURSE by that", x.ofPlayer(0, 1) == purse + brought || purse + brought > 9999900 - 1000);
      int[] bad = {0, -1, 61};
      for (int b : bad) Due.due("play(0, " + b + ")", x.play(0, b), Due.VOID);
      Due.due("LED stays", x.led(-1, 0), n);
    }
  }

  /** A player of 100 hundredths wins 199 by a NATURAL, loses 200 and has 99; at 200 it has 100 then. */
  private static CardsGone hundredths(int pays) {
    CardsGone x = with(0, 1, 0);
    x.rule(1, pays);
    Due.text(x, 0, "0");
    Due.deal(x, 1, 9, 10, 9);
    Due.due("a NATURAL", x.play(0, 1), pays);
    Due.deal(x, 10, 10, 8, 9);
    x.play(0, 1);
    Due.deal(x, 10, 10, 8, 9);
    x.play(0, 1);
    Due.due("PURSE", x.ofPlayer(0, 1), pays - 100);
    return x;
  }

  /** "it ends ahead of one, if PURSE is below 100" */
  private static void endsBelowAHundred() {
    CardsGone below = hundredths(199);
    int gone = below.left(12);
    Due.due("with 99 hundredths it plays none", below.play(0, 5), 0);
    Due.due("no HAND is LED", below.led(-1, 0), 0);
    Due.due("no HAND is played", below.ofPlayer(0, 5), 3);
    Due.due("no card came", below.left(12), gone);
    CardsGone at = hundredths(200);
    Due.deal(at, 10, 10, 9, 9);
    Due.due("with 100 hundredths it plays", at.play(0, 1), 0);
    Due.due("a HAND is LED", at.led(-1, 0), 1);
    Due.deal(at, 10, 10, 8, 9);
    Due.due("and ends behind a lost one", at.play(0, 60), -100);
    Due.due("HANDS of that call", at.led(-1, 0), 1);
    Due.due("PURSE", at.ofPlayer(0, 1), 0);
    CardsGone none = with(0, 0, 0);
    Due.due("with PURSE 0 it plays none", none.play(0, 1), 0);
    Due.due("no HAND began", none.left(12), 0);
    CardsGone one = with(0, 1, 0);
    one.play(0, 1);
    Due.due("with PURSE 1 it plays", one.led(-1, 0), 1);
  }

  /** "(as BET 0 is told it goes on: with PURSE below 100 it ends in any case)" */
  private static void endsBelowAHundredWithBetNone() {
    CardsGone x = with(5, 1, 99);
    Due.due("with PURSE 1 BET 0 goes on", x.play(0, 60), 0);
    Due.due("HANDS", x.led(-1, 0), 60);
    for (int h = 0; h < 60; h++) Due.due("BET", x.led(h, 0), 0);
    Due.due("PURSE stays", x.ofPlayer(0, 1), 100);
    x.purse(0, 0);
    Due.due("with PURSE 0 it ends", x.play(0, 60), 0);
    Due.due("HANDS", x.led(-1, 0), 0);
  }

  /** "PURSE is held within 0 .. 9999900" */
  private static void purseHeldAtNone() {
    int[] purses = {5, 6, 7, 9, 10, 11, 12, 13};
    for (int purse : purses) {
      CardsGone x = with(0, purse, 0);
      Due.text(x, 0, "2");
      Due.text(x, 2, "6");
      Due.text(x, 3, "r+50");
      Due.deal(x, 10, 10, 6, 9, 10);
      int bet = Math.min(6, purse);
      Due.due("a DOUBLE is lost with PURSE " + purse, x.play(0, 1), -200 * bet);
      Due.due("what it brought is told whole", x.led(0, 1), -200 * bet);
      Due.due("and is so to WATCHES", x.led(0, 6), 50 - 2 * bet);
      Due.due("PURSE then", x.ofPlayer(0, 1), Math.max(0, purse * 100 - 200 * bet));
    }
  }

  /** "What it brings comes to PURSE (9999900 at most)." */
  private static void purseHeldAtTheMost() {
    int[] purses = {99990, 99991, 99997, 99998, 99999};
    for (int purse : purses) {
      CardsGone x = with(0, purse, 0);
      Due.text(x, 0, "2");
      Due.text(x, 2, "4");
      Due.text(x, 3, "r");
      Due.deal(x, 6, 10, 5, 9, 10);
      Due.due("a DOUBLE is won with PURSE " + purse, x.play(0, 1), 800);
      Due.due("what it brought is told whole", x.led(0, 1), 800);
      Due.due("and is so to WATCHES", x.led(0, 6), 8);
      Due.due("PURSE then", x.ofPlayer(0, 1), Math.min(9999900, purse * 100 + 800));
    }
  }

  /** "from LIMIT .. on it is BARRED" */
  private static void barredFromTheLimitOn() {
    for (int limit = 19; limit <= 21; limit++) {
      CardsGone x = with(0, 99999, 0);
      Due.text(x, 3, "10");
      x.limit(limit);
      x.play(0, 60);
      Due.due("HANDS with LIMIT " + limit, x.led(-1, 0), limit <= 20 ? 2 : 3);
      Due.due("points", x.ofPlayer(0, 3), limit <= 20 ? 20 : 30);
      Due.due("BARRED", x.ofPlayer(0, 4), 1);
      int brought = x.play(0, 60);
      Due.due("what a BARRED one brings", brought, 0);
      Due.due("HANDS of a BARRED one", x.led(-1, 0), 0);
    }
    CardsGone x = with(0, 99999, 0);
    Due.text(x, 3, "10");
    x.limit(20);
    x.play(0, 1);
    Due.due("BARRED with 10 of 20", x.ofPlayer(0, 4), 0);
    x.limit(11);
    Due.due("BARRED with 10 of 11", x.ofPlayer(0, 4), 0);
    x.limit(10);
    Due.due("BARRED with 10 of 10", x.ofPlayer(0, 4), 1);
    x.limit(9);
    Due.due("BARRED with 10 of 9", x.ofPlayer(0, 4), 1);
  }

  /** "(BARRED is asked by it as it is.)" - and another player by its own points. */
  private static void limitAsItIs() {
    CardsGone x = with(0, 99999, 0);
    x.player(0, 99999, 0);
    Due.text(x, 3, "50");
    x.limit(100);
    x.play(0, 9);
    Due.due("HANDS", x.led(-1, 0), 2);
    x.play(1, 1);
    Due.due("another one plays", x.led(-1, 0), 1);
    Due.due("its points", x.ofPlayer(1, 3), 50);
    x.limit(101);
    x.play(0, 9);
    Due.due("a greater LIMIT lets it play", x.led(-1, 0), 1);
    x.undo();
    Due.due("the LIMIT ahead of it bars again", x.ofPlayer(0, 4), 1);
    x.limit(9999);
    Due.due("and 9999 does not", x.ofPlayer(0, 4), 0);
  }

  /** "LIMIT (told, 1 .. 9999; 9999 at first)" */
  private static void limitAtItsBounds() {
    CardsGone x = with(0, 99999, 0);
    int[][] told = {{9999, 9999}, {10000, CardsGone.BAD}, {1, 9999}, {0, CardsGone.BAD}, {2, 1}, {1, 2}};
    for (int[] t : told) Due.due("limit(" + t[0] + ")", x.limit(t[0]), t[1]);
    Due.due("LIMIT 1 bars none without points", x.ofPlayer(0, 4), 0);
    x.play(0, 5);
    Due.due("nor lets it play less", x.led(-1, 0), 5);
    Due.text(x, 3, "1");
    x.play(0, 5);
    Due.due("with a point it is BARRED", x.led(-1, 0), 1);
    CardsGone y = with(0, 99999, 0);
    Due.text(y, 3, "99");
    y.play(0, 60);
    y.play(0, 60);
    Due.due("LIMIT 9999 at first: HANDS till 9999 points", y.ofPlayer(0, 5), 101);
    Due.due("points", y.ofPlayer(0, 3), 9999);
    Due.due("BARRED at 9999", y.ofPlayer(0, 4), 1);
    CardsGone z = with(0, 99999, 0);
    Due.text(z, 3, "98");
    for (int i = 0; i < 3; i++) z.play(0, 60);
    Due.due("with 9996 points one HAND more", z.ofPlayer(0, 5), 103);
    Due.due("points above 9999", z.ofPlayer(0, 3), 10094);
    Due.due("BARRED above 9999", z.ofPlayer(0, 4), 1);
  }

  /** PURSE and LIMIT told, UNDONE and DONE AGAIN change those alone: l, points, HANDS, CALL, KIND and what is LED stay. */
  private static void tellingsLeaveThePlayer() {
    CardsGone x = with(7, 5000, -99);
    Due.text(x, 0, "0");
    Due.text(x, 2, "6");
    Due.text(x, 3, "l+9");
    x.play(0, 2);
    x.purse(0, 4000);
    x.limit(20);
    x.undo();
    x.undo();
    x.redo();
    x.redo();
    x.limit(9999);
    int[] due = {7, 400000, -99, 24, 0, 2};
    for (int what = 0; what < 6; what++) Due.due("ofPlayer(0, " + what + ")", x.ofPlayer(0, what), due[what]);
    Due.due("LED stays", x.led(1, 6), 15);
    Due.deal(x, 10, 10, 9, 9, 10);
    x.play(0, 1);
    Due.due("l", x.led(0, 6), 15);
    Due.due("its third HAND is turned about", x.led(0, 2), 3);
  }

  /** w: "whether some play of that HAND, as it was made, was another one than BEST": each play of two cards in a whole SHOE. */
  private static void strayedByTwoCards() {
    // with the third card it has 21 or more, and is not asked again
    int[][] cards = {{10, 10, 6, 9, 10}, {10, 6, 6, 9, 10}, {6, 6, 5, 9, 10}, {10, 5, 10, 9, 1}, {1, 5, 6, 9, 4}, {1, 10, 6, 9, 4}};
    for (int[] c : cards) {
      int hard = c[0] + c[2], total = c[0] == 1 ? 1010 + hard : hard;
      for (int mayDouble = 0; mayDouble <= 1; mayDouble++) {
        for (int play = 0; play <= 2; play++) {
          CardsGone x = with(0, 5000, 0);
          x.rule(2, mayDouble);
          Due.text(x, 0, "n=2?" + play);
          Due.text(x, 3, "w*7");
          Due.deal(x, c);
          x.play(0, 1);
          int made = play == 2 && mayDouble == 0 ? 1 : play;
          int w = made != x.row(total, c[1], 0) ? 1 : 0;
          Due.due("plays", x.led(0, 4), 1);
          Due.due("w of " + play + " at " + total + " against " + c[1], x.led(0, 8), w);
          Due.due("points by w", x.led(0, 6), 7 * w);
        }
      }
    }
  }

  /** "(.. of three cards and more STAND or DRAW alone)": at 11 of three cards against a 6 a draw is BEST, though DOUBLE is above it. */
  private static void strayedByThree() {
    CardsGone x = with(0, 5000, 0);
    Due.text(x, 0, "p<12");
    Due.deal(x, 2, 6, 3, 10, 6, 10);
    x.play(0, 1);
    Due.due("BEST of two at 11", x.row(11, 6, 0), 2);
    Due.due("it drew at 5 and at 11", x.led(0, 4), 2);
    Due.due("w of draws that are BEST", x.led(0, 8), 0);
    Due.text(x, 0, "p<11");
    Due.deal(x, 2, 6, 3, 10, 6, 10);
    x.play(0, 1);
    Due.due("it stood at 11", x.led(0, 4), 2);
    Due.due("w of a later play that is not BEST", x.led(0, 8), 1);
    Due.text(x, 0, "n=2?1;p<15");
    Due.deal(x, 2, 6, 3, 10, 8, 10);
    x.play(0, 1);
    Due.due("it drew at 13 against a 6", x.led(0, 8), 1);
    Due.text(x, 0, "n=2?1;0");
    Due.deal(x, 10, 6, 3, 10, 2, 10);
    x.play(0, 1);
    Due.due("a first play that is not BEST, then one that is", x.led(0, 8), 1);
    CardsGone feigned = with(7, 5000, -99);
    Due.text(feigned, 0, "0");
    for (int h = 1; h <= 3; h++) {
      Due.deal(feigned, 10, 6, 3, 10, 7);
      feigned.play(0, 1);
      Due.due("w of HAND " + h + ": the play as it was made", feigned.led(0, 8), h == 3 ? 1 : 0);
    }
  }

  /** "by what was LEFT .. as THE HAND began": not by that at the play, nor by a whole SHOE. */
  private static void strayedByWhatWasLeftAsItBegan() {
    int unlikeWhole = 0, strayed = 0;
    for (int seed = 0; seed < 150; seed++) {
      CardsGone x = with(0, 5000, 0);
      Due.text(x, 0, "0");
      x.shoe(1, 1);
      x.shoe(2, 95);
      x.shoe(0, seed);
      for (int i = 0; i < 8 && x.left(0) > 16; i++) {
        int[] best = new int[11];
        CardsGone asked = x;
        for (int d = 1; d <= 10; d++) best[d] = asked.worth(16, d, 3);
        boolean shuffles = x.left(12) >= 49 || x.left(12) == 0;
        x.play(0, 1);
        int a = x.led(0, 10), b = x.led(0, 11), d = x.led(0, 30);
        if (shuffles || x.led(0, 4) == 0 || a + b != 16) continue;
        int due = best[d] == 0 ? 0 : 1;
        Due.due("w of a stand at 16", x.led(0, 8), due);
        strayed += due;
        if (best[d] != x.row(16, d, 0)) unlikeWhole++;
      }
    }
    Due.isSo("some strayed, some by LEFT alone: " + strayed + ", " + unlikeWhole, strayed > 0 && unlikeWhole > 0);
  }

  /** ".. and RULES, as THE HAND began": RULES told behind it change nothing of what is LED. */
  private static void strayedByRulesAsItBegan() {
    CardsGone x = with(0, 5000, 0);
    Due.text(x, 0, "n=2");
    Due.text(x, 3, "w*5");
    x.rule(2, 0);
    Due.deal(x, 6, 6, 5, 10, 10);
    x.play(0, 1);
    Due.due("a draw at 11 is BEST without RULE 2", x.led(0, 8), 0);
    x.rule(2, 1);
    Due.due("w stays as RULE 2 is told", x.led(0, 8), 0);
    Due.due("hides() then", x.hides(), 0);
    Due.deal(x, 6, 6, 5, 10, 10);
    x.play(0, 1);
    Due.due("with RULE 2 it is not BEST", x.led(0, 8), 1);
    Due.due("hides() then", x.hides(), 5);
    x.rule(2, 0);
    Due.due("w stays", x.led(0, 8), 1);
    Due.due("hides() stays", x.hides(), 5);
  }

  /** "LED: each HAND of the latest such call" */
  private static void ledOfTheLatestCall() {
    CardsGone x = with(0, 5000, 0);
    Due.due("led(-1, 0) at first", x.led(-1, 0), 0);
    Due.due("led(0, 0) at first", x.led(0, 0), Due.VOID);
    x.play(0, 60);
    Due.due("led(59, 0)", x.led(59, 0), 1);
    Due.due("led(60, 0)", x.led(60, 0), Due.VOID);
    x.play(0, 2);
    Due.due("led(1, 0)", x.led(1, 0), 1);
    Due.due("led(2, 0) is of no HAND now", x.led(2, 0), Due.VOID);
    Due.due("play() of none", x.play(1, 1), Due.VOID);
    Due.due("LED stays", x.led(-1, 0), 2);
    x.player(0, 0, 0);
    x.play(1, 7);
    Due.due("a call without HANDS leaves none LED", x.led(-1, 0), 0);
    Due.due("led(0, 0) then", x.led(0, 0), Due.VOID);
    int[] whats = {-1, 1, 8, 10};
    for (int what : whats) Due.due("led(-1, " + what + ")", x.led(-1, what), Due.VOID);
  }

  /** "10 and i: the player's card i (0 .. 19); 30 and i: the dealer's .. VOID: BAD (also of a card that is not there)" */
  private static void ledCardsThatAreThere() {
    CardsGone x = null;
    java.util.List<Integer> cards = null;
    boolean found = false;
    for (int seed = 0; seed < 5000 && !found; seed++) {
      x = with(0, 5000, 0);
      Due.text(x, 0, "n<4");
      x.shoe(1, 1);
      x.shoe(0, seed);
      cards = Due.shuffled(1, seed);
      x.play(0, 1);
      found = x.led(0, 2) == 4 && x.led(0, 3) == 5;
    }
    Due.isSo("four cards and five of the dealer's came", found);
    int[] mine = {1, 3, 5, 6}, theirs = {2, 4, 7, 8, 9};
    for (int i = 0; i < 20; i++) Due.due("the player's card " + i, x.led(0, 10 + i), i < 4 ? cards.get(mine[i]) : Due.VOID);
    for (int i = 0; i < 20; i++) Due.due("the dealer's card " + i, x.led(0, 30 + i), i < 5 ? cards.get(theirs[i]) : Due.VOID);
    int[] none = {9, 50, 51, -1, 29, 49};
    for (int what : none) Due.due("led(0, " + what + ")", x.led(0, what), Due.VOID);
    int[] told = {1, x.led(0, 1), 4, 5, 3, 0, 0, 0};
    for (int what = 0; what < 8; what++) Due.due("led(0, " + what + ")", x.led(0, what), told[what]);
    // a HAND of fewer cards behind one of more has no more of those
    Due.deal(x, 10, 9, 1, 8);
    x.play(0, 1);
    Due.due("the second card", x.led(0, 11), 1);
    Due.due("no third card", x.led(0, 12), Due.VOID);
    Due.due("no third one of the dealer", x.led(0, 32), Due.VOID);
  }

  /** "A HAND FROM A ROW .. for a PLAYER's KIND": with BET 1, whatever its PURSE, CALL and BETS, BARRED or not. */
  private static void handForAKind() {
    for (int kind = 0; kind < 8; kind++) {
      CardsGone x = with(kind, 5, 99);
      Due.text(x, 2, "50");
      Due.text(x, 3, "50");
      x.limit(1);
      x.play(0, 1);
      x.purse(0, 0);
      Due.due("BARRED", x.ofPlayer(0, 4), 1);
      Due.row(x, 0, 10, 10, 10, 9);
      Due.due("BET 1 is won", x.hand(0, 0, 0), 100);
      Due.row(x, 0, 1, 10, 10, 9);
      Due.due("BET 1 is won by a NATURAL", x.hand(0, 0, 0), 150);
      Due.text(x, 0, "2");
      Due.row(x, 0, 9, 6, 10, 5, 10, 6);
      Due.due("BET 1 is lost twice, from place 1 on", x.hand(0, 0, 1), -200);
      Due.due("its PURSE", x.ofPlayer(0, 1), 0);
      Due.due("its points", x.ofPlayer(0, 3), 50);
      Due.due("its HANDS", x.ofPlayer(0, 5), 1);
    }
    CardsGone x = with(7, 50, -99);
    Due.text(x, 0, "0");
    x.play(0, 2);
    Due.row(x, 0, 10, 10, 9, 7, 5);
    for (int i = 0; i < 3; i++) Due.due("FEIGNED plays as one that is not turned about", x.hand(0, 0, 0), 100);
    x.play(0, 1);
    if (x.led(0, 4) > 0) Due.due("its third is the next by THE SHOE", x.led(0, 2) > 2 ? 1 : 0, 1);
  }
}
