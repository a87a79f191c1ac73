/** Section 1 of the document at its edges: one HAND, from the deal to what it brings, and MISDEALS. */
public final class HandEdgesTest {
  public static void main(String[] args) {
    orderOfTheDeal();
    totals();
    naturalsOfTwoCardsAlone();
    naturalsByTheShoe();
    whatANaturalPays();
    askedBelowTwentyOne();
    doubles();
    otherNumbersStand();
    aboveTwentyOne();
    dealerAtStands();
    dealerAtSoftStands();
    whoWins();
    betsAtTheirBounds();
    misdealAsThePlayerDraws();
    misdealAsOneDoubles();
    misdealAsTheDealerDraws();
    misdealIsAHand();
    betOfAMisdealIsTheNextOnesL();
    theLastCardIsNoMisdeal();
    misdealOfARow();
    valuesThatAreNotSo();
    rowsThatAreMissing();
    placesOfARow();
    Due.end();
  }

  private static CardsGone with(int kind, String plays) {
    CardsGone x = new CardsGone();
    x.player(kind, 5000, -99);
    if (plays != null) Due.text(x, 0, plays);
    return x;
  }

  /** A HAND of such cards by THE SHOE, LED. */
  private static CardsGone played(String plays, int... values) {
    CardsGone x = with(0, plays);
    Due.deal(x, values);
    x.play(0, 1);
    return x;
  }

  /** What a HAND of such cards from a ROW brings. */
  private static int brings(CardsGone x, int... values) {
    Due.row(x, 0, values);
    return x.hand(0, 0, 0);
  }

  private static int brings(String plays, int... values) {
    return brings(with(0, plays), values);
  }

  /** "to the player, the dealer (open), the player, the dealer (hidden)" */
  private static void orderOfTheDeal() {
    CardsGone x = played("d=3", 2, 3, 4, 5, 6, 10);
    Due.due("the player's first", x.led(0, 10), 2);
    Due.due("the dealer's open one", x.led(0, 30), 3);
    Due.due("the player's second", x.led(0, 11), 4);
    Due.due("the hidden one", x.led(0, 31), 5);
    Due.due("the player's third: d is the open VALUE", x.led(0, 12), 6);
  }

  /** "the sum of VALUES, and 10 more if there is an ACE and the sum is 11 or less (then it is SOFT)": stands only if PLAY names it so. */
  private static void totals() {
    isTold("an ACE and a 9 (sum 10)", "p=20&a=1", 1, 9);
    isTold("an ACE and an ACE (sum 2)", "p=12&a=1", 1, 1);
    isTold("a 10 and a 9", "p=19&a=0", 10, 9);
    isTold("2 and 2", "p=4&a=0", 2, 2);
    isTold("ACE, 8, 2 (sum 11) is 21", null, 1, 8, 2);
    isTold("ACE, 9, 2 (sum 12)", "p=12&a=0", 1, 9, 2);
    isTold("6, 5, ACE (sum 12)", "p=12&a=0", 6, 5, 1);
    isTold("5, 4, ACE (sum 10)", "p=20&a=1", 5, 4, 1);
    isTold("four ACES", "p=14&a=1", 1, 1, 1, 1);
    isTold("10, 9, ACE", "p=20&a=0", 10, 9, 1);
    isTold("ACE, 5, 10, 4", "p=20&a=0", 1, 5, 10, 4);
  }

  /** It stands at that hand, which then is above the dealer's 17 or not; without a TEXT it is 21 and not asked. */
  private static void isTold(String hand, String named, int... mine) {
    String plays = "n<" + mine.length + (named == null ? "" : "|n=" + mine.length + "&!(" + named + ")");
    int[] cards = new int[mine.length + 3];
    cards[0] = mine[0];
    cards[1] = 10;
    cards[2] = mine[1];
    cards[3] = 7;
    for (int i = 2; i < mine.length; i++) cards[2 + i] = mine[i];
    cards[mine.length + 2] = 11;
    int sum = 0;
    boolean ace = false;
    for (int v : mine) {
      sum += v;
      ace |= v == 1;
    }
    int total = ace && sum <= 11 ? sum + 10 : sum;
    Due.due(hand, brings(plays, cards), total > 17 ? 100 : total == 17 ? 0 : -100);
  }

  /** "NATURAL: 21 of the first two cards." */
  private static void naturalsOfTwoCardsAlone() {
    Due.due("ACE and 10", brings("0", 1, 9, 10, 9), 150);
    Due.due("10 and ACE", brings("0", 10, 9, 1, 9), 150);
    Due.due("21 of three", brings("1", 5, 9, 6, 10, 10), 100);
    Due.due("ACE, 2, 8", brings("1", 1, 9, 2, 10, 8), 100);
    Due.due("20 of two is none", brings("0", 10, 9, 10, 10), 100);
    Due.due("the dealer's 21 of three is none: like ones", brings("1", 5, 9, 6, 6, 10, 6), 0);
    Due.due("the dealer's 21 of three does not beat a NATURAL", brings("1", 1, 9, 10, 6, 6), 150);
    Due.due("the dealer's NATURAL beats what may become 21", brings("1", 5, 1, 6, 10, 10), -100);
  }

  /** "With a NATURAL of either there is no play: both: 0; the player's ..; the dealer's: BET is lost." */
  private static void naturalsByTheShoe() {
    int[][] cards = {{1, 10, 10, 1}, {10, 1, 1, 10}, {1, 9, 10, 9}, {10, 10, 1, 10}, {9, 1, 9, 10}, {9, 10, 9, 1}, {2, 10, 3, 1}};
    int[] brought = {0, 0, 1050, 1050, -700, -700, -700};
    for (int i = 0; i < cards.length; i++) {
      CardsGone x = with(0, "1");
      Due.text(x, 2, "7");
      Due.text(x, 3, "w*9+r+50");
      Due.deal(x, cards[i]);
      Due.due("NATURALS " + i, x.play(0, 1), brought[i]);
      Due.due("its BET", x.led(0, 0), 7);
      Due.due("no play", x.led(0, 4), 0);
      Due.due("two cards", x.led(0, 2), 2);
      Due.due("two of the dealer's", x.led(0, 3), 2);
      Due.due("w of no play", x.led(0, 8), 0);
      Due.due("points", x.led(0, 6), Math.min(99, brought[i] / 100 + 50));
      Due.due("PURSE", x.ofPlayer(0, 1), 500000 + brought[i]);
      Due.due("gone", x.left(12), 5);
    }
  }

  /** RULE 1, 100 .. 200, BET 1 .. 99 and 0. */
  private static void whatANaturalPays() {
    int[] pays = {100, 101, 150, 199, 200};
    for (int pay : pays) {
      CardsGone x = with(0, "0");
      x.rule(1, pay);
      Due.due("a NATURAL from a ROW at " + pay, brings(x, 1, 9, 10, 9), pay);
      Due.deal(x, 1, 9, 10, 9);
      Due.due("a NATURAL with BET 1 at " + pay, x.play(0, 1), pay);
      Due.text(x, 2, "99");
      Due.deal(x, 1, 9, 10, 9);
      Due.due("a NATURAL with BET 99 at " + pay, x.play(0, 1), 99 * pay);
    }
    CardsGone big = new CardsGone();
    big.player(5, 50, 99);
    Due.deal(big, 1, 9, 10, 9);
    Due.due("a NATURAL with BET 0", big.play(0, 1), 0);
    Due.deal(big, 9, 1, 9, 10);
    Due.due("the dealer's with BET 0", big.play(0, 1), 0);
    Due.due("PURSE then", big.ofPlayer(0, 1), 5000);
  }

  /** "as long as the player's TOTAL is below 21" */
  private static void askedBelowTwentyOne() {
    CardsGone twenty = played("1", 10, 9, 10, 8, 1);
    Due.due("20 is asked", twenty.led(0, 4), 1);
    Due.due("and has 21 then, which is not", twenty.led(0, 2), 3);
    CardsGone three = played("1", 5, 9, 6, 8, 10);
    Due.due("21 of three is not asked", three.led(0, 4), 1);
    Due.due("nor does it draw", three.led(0, 2), 3);
    CardsGone soft = played("1", 1, 9, 6, 8, 4);
    Due.due("SOFT 21 is not asked", soft.led(0, 4), 1);
    CardsGone above = played("1", 10, 9, 6, 8, 10);
    Due.due("26 is not asked", above.led(0, 4), 1);
    Due.due("what 26 brings", above.led(0, 1), -100);
    CardsGone stands = played("0", 10, 9, 6, 8);
    Due.due("a stand is a play, too", stands.led(0, 4), 1);
    CardsGone none = played(null, 10, 9, 6, 8, 1, 10);
    Due.due("without a TEXT 16 draws, 17 stands", none.led(0, 2), 3);
    Due.due("plays without a TEXT", none.led(0, 4), 2);
    CardsGone soft16 = played(null, 1, 9, 5, 8, 1, 10);
    Due.due("without a TEXT SOFT 16 draws, SOFT 17 stands", soft16.led(0, 2), 3);
  }

  /** "2 DOUBLES, if there are two cards and RULE 2 lets (else draws): BET is twice that, one card comes, and that is all" */
  private static void doubles() {
    CardsGone x = played("2", 2, 9, 3, 8, 4, 10);
    Due.due("one card comes", x.led(0, 2), 3);
    Due.due("that is all", x.led(0, 4), 1);
    Due.due("BET as set ahead", x.led(0, 0), 1);
    Due.due("twice BET is lost", x.led(0, 1), -200);
    CardsGone three = played("n=2?1;p<20?2", 2, 9, 3, 8, 4, 5, 6);
    Due.due("with three cards it draws and goes on", three.led(0, 4), 4);
    Due.due("BET alone is won", three.led(0, 1), 100);
    CardsGone without = with(0, "n<4?2");
    without.rule(2, 0);
    Due.deal(without, 2, 9, 3, 8, 5, 10);
    Due.due("without RULE 2 it draws and goes on", without.play(0, 1), 100);
    Due.due("cards then", without.led(0, 2), 4);
    CardsGone natural = played("2", 1, 9, 10, 8);
    Due.due("a NATURAL is not DOUBLED", natural.led(0, 1), 150);
    Due.due("a DOUBLE above 21", brings("2", 10, 10, 6, 9, 10), -200);
    Due.due("a DOUBLE that wins", brings("2", 6, 10, 5, 9, 10), 200);
    Due.due("a DOUBLE to like ones", brings("2", 6, 10, 5, 9, 8), 0);
  }

  /** "any other: it stands" */
  private static void otherNumbersStand() {
    String[] others = {"0", "3", "4", "-1", "-2", "9999", "9999*9999*22", "0?1", "0?1;0?2"};
    for (String text : others) {
      CardsGone x = played(text, 2, 10, 3, 7, 4);
      Due.due(text + " stands", x.led(0, 2), 2);
      Due.due(text + " is one play", x.led(0, 4), 1);
    }
  }

  /** "Above 21 BET is lost." The dealer does not draw then. */
  private static void aboveTwentyOne() {
    CardsGone x = played("1", 10, 2, 10, 3, 2);
    Due.due("22 is lost", x.led(0, 1), -100);
    Due.due("the dealer does not draw", x.led(0, 3), 2);
    Due.due("21 is not above", brings("1", 10, 10, 10, 10, 1), 100);
    Due.due("22 is", brings("1", 10, 10, 10, 10, 2), -100);
    Due.due("22 of a row that ends there", brings("1", 10, 2, 10, 3, 2), -100);
  }

  /** "the dealer draws as long as its TOTAL is below STANDS", 15 .. 19. */
  private static void dealerAtStands() {
    for (int stands = 15; stands <= 19; stands++) {
      CardsGone x = with(0, "0");
      x.rule(3, stands);
      // the player has 10 and 10; a 2 that comes would be SEEN
      Due.due("at " + stands + " it stands", brings(x, 10, 10, 10, stands - 10), 100);
      Due.due("at one less it draws, and has 20", brings(x, 10, 10, 10, stands - 11, 21 - stands), 0);
      Due.due("at one less it wants a card", brings(x, 10, 10, 10, stands - 11), -999999);
      x.rule(0, 1);
      Due.due("a hard one at " + stands + " stands by RULE 0", brings(x, 10, 10, 10, stands - 10), 100);
    }
  }

  /** "or is SOFT STANDS and RULE 0 is 1" */
  private static void dealerAtSoftStands() {
    for (int stands = 15; stands <= 19; stands++) {
      CardsGone x = with(0, "0");
      x.rule(3, stands);
      int with = stands - 11;
      Due.due("SOFT " + stands + " stands without RULE 0", brings(x, 10, 1, 10, with), 100);
      Due.due("one less SOFT draws", brings(x, 10, 1, 10, with - 1), -999999);
      x.rule(0, 1);
      Due.due("SOFT " + stands + " draws by RULE 0", brings(x, 10, 1, 10, with), -999999);
      Due.due("and has 21 then", brings(x, 10, 1, 10, with, 10 - with), -100);
      if (with < 8) Due.due("one more SOFT stands by RULE 0", brings(x, 10, 1, 10, with + 1), 100);
      Due.due("hard " + stands + " by a 10 stands", brings(x, 10, 1, 10, with, 10), 100);
    }
    CardsGone x = with(0, "0");
    x.rule(0, 1);
    Due.due("SOFT 17, a 10: hard 17 stands", brings(x, 10, 1, 10, 6, 10), 100);
    Due.due("SOFT 17, an ACE: SOFT 18 stands", brings(x, 10, 1, 10, 6, 1), 100);
    Due.due("three cards are SOFT 17, too", brings(x, 10, 2, 10, 4, 1, 4), -100);
  }

  /** "above 21, or less than the player's: BET is won; like ones: 0; else lost" */
  private static void whoWins() {
    Due.due("the dealer has 22", brings("0", 2, 10, 2, 6, 6), 100);
    Due.due("the dealer has 21", brings("0", 10, 10, 10, 6, 5), -100);
    Due.due("the dealer has 26", brings("0", 2, 10, 2, 6, 10), 100);
    for (int mine = 17; mine <= 20; mine++) {
      for (int theirs = 17; theirs <= 20; theirs++) {
        int due = theirs < mine ? 100 : theirs == mine ? 0 : -100;
        Due.due(mine + " and " + theirs, brings("0", 10, 10, mine - 10, theirs - 10), due);
      }
    }
    Due.due("21 and 21", brings("p<21", 10, 10, 6, 6, 5, 5), 0);
    Due.due("16 and 17", brings("0", 10, 10, 6, 7), -100);
  }

  /** "A HAND with a BET (0 .. 99)" */
  private static void betsAtTheirBounds() {
    int[] bets = {1, 2, 98, 99};
    for (int bet : bets) {
      CardsGone x = with(0, "p<11?2");
      Due.text(x, 2, Integer.toString(bet));
      Due.deal(x, 10, 10, 10, 9);
      Due.due("won with BET " + bet, x.play(0, 1), bet * 100);
      Due.deal(x, 10, 10, 8, 9);
      Due.due("lost with BET " + bet, x.play(0, 1), -bet * 100);
      Due.deal(x, 10, 10, 9, 9);
      Due.due("like ones with BET " + bet, x.play(0, 1), 0);
      Due.deal(x, 6, 10, 4, 9, 10);
      Due.due("DOUBLED with BET " + bet, x.play(0, 1), bet * 200);
      Due.due("BET as set ahead", x.led(0, 0), bet);
    }
    CardsGone big = new CardsGone();
    big.player(5, 50, 99);
    Due.text(big, 0, "2");
    int[][] cards = {{10, 10, 10, 9, 1}, {10, 10, 8, 9, 2}, {10, 10, 8, 9, 10}};
    for (int[] c : cards) {
      Due.deal(big, c);
      Due.due("what BET 0 brings", big.play(0, 1), 0);
      Due.due("BET 0", big.led(0, 0), 0);
      Due.due("it is a HAND with its cards", big.led(0, 2), 3);
    }
    Due.due("HANDS of BET 0 are played, too", big.ofPlayer(0, 5), 3);
  }

  /** One pack, CUT 95, of which so many are gone: all HANDS ahead of it stood. */
  private static CardsGone nearTheEnd(int kind, int seed, int gone) {
    CardsGone x = with(kind, "0");
    Due.text(x, 1, "1");
    Due.text(x, 2, "3");
    x.shoe(1, 1);
    x.shoe(2, 95);
    x.shoe(0, seed);
    x.play(0, 1);
    for (int i = 0; i < 14 && x.left(12) < gone; i++) x.play(0, 1);
    return x.left(12) == gone && x.left(0) == 52 - gone + 1 ? x : null;
  }

  /** Behind a MISDEAL that came with the four cards that were the last: all is gone, two cards are LEFT. */
  private static void isMisdealOfTheLast(CardsGone x, int purse, int points, int plays) {
    Due.due("a MISDEAL", x.led(0, 7), 1);
    Due.due("it brings 0", x.led(0, 1), 0);
    Due.due("its BET", x.led(0, 0), 3);
    Due.due("plays", x.led(0, 4), plays);
    Due.due("PURSE as it was", x.ofPlayer(0, 1), purse);
    Due.due("points by WATCHES", x.led(0, 6), 50);
    Due.due("they come to the player", x.ofPlayer(0, 3), points + 50);
    Due.due("all are gone", x.left(12), 52);
    Due.due("LEFT are the hidden and the BURNT one", x.left(0), 2);
    Due.due("COUNT is without them", x.left(11), 50);
    Due.due("the hidden one is told all the same", x.led(0, 31) >= 1 ? 1 : 0, 1);
  }

  private static void isShuffledThen(CardsGone x, int seed) {
    x.play(0, 1);
    Due.due("it is SHUFFLED ahead of the next", x.led(0, 10), Due.shuffled(1, Due.zBehind(1, seed)).get(1));
    Due.due("gone then", x.left(12), 1 + x.led(0, 2) + x.led(0, 3));
    Due.due("the next is no MISDEAL", x.led(0, 7), 0);
  }

  /** "MISDEAL: a card is wanted, and THE SHOE has none" - as the player draws. */
  private static void misdealAsThePlayerDraws() {
    int found = 0;
    for (int seed = 0; seed < 3000 && found < 3; seed++) {
      CardsGone x = nearTheEnd(0, seed, 48);
      if (x == null) continue;
      Due.text(x, 0, "1");
      Due.text(x, 3, "50");
      int purse = x.ofPlayer(0, 1), points = x.ofPlayer(0, 3), hands = x.ofPlayer(0, 5);
      Due.due("what is brought", x.play(0, 1) - x.led(0, 1), 0);
      if (x.led(0, 4) == 0) continue;
      found++;
      isMisdealOfTheLast(x, purse, points, 1);
      Due.due("two cards of the player", x.led(0, 2), 2);
      Due.due("it is a HAND played", x.ofPlayer(0, 5), hands + 1);
      Due.due("it is LED", x.led(-1, 0), 1);
      Due.text(x, 3, "l");
      isShuffledThen(x, seed);
      Due.due("l is its BET", x.led(0, 6), 3);
    }
    Due.due("MISDEALS as the player draws", found, 3);
  }

  private static void misdealAsOneDoubles() {
    int found = 0;
    for (int seed = 0; seed < 3000 && found < 3; seed++) {
      CardsGone x = nearTheEnd(0, seed, 48);
      if (x == null) continue;
      Due.text(x, 0, "2");
      Due.text(x, 3, "r+50");
      int purse = x.ofPlayer(0, 1), points = x.ofPlayer(0, 3);
      x.play(0, 1);
      if (x.led(0, 4) == 0) continue;
      found++;
      isMisdealOfTheLast(x, purse, points, 1);
      isShuffledThen(x, seed);
    }
    Due.due("MISDEALS as one DOUBLES", found, 3);
  }

  private static void misdealAsTheDealerDraws() {
    int found = 0, stood = 0;
    for (int seed = 0; seed < 3000 && (found < 3 || stood < 3); seed++) {
      CardsGone x = nearTheEnd(0, seed, 48);
      if (x == null) continue;
      Due.text(x, 3, "50");
      int purse = x.ofPlayer(0, 1), points = x.ofPlayer(0, 3);
      x.play(0, 1);
      int a = x.led(0, 30), b = x.led(0, 31);
      int total = a + b + (a == 1 || b == 1 ? 10 : 0);
      if (x.led(0, 4) == 0) continue;
      if (total < 17) {
        found++;
        isMisdealOfTheLast(x, purse, points, 1);
        isShuffledThen(x, seed);
      } else {
        stood++;
        Due.due("with the last card taken it is no MISDEAL", x.led(0, 7), 0);
        Due.due("LEFT is the BURNT one", x.left(0), 1);
        Due.due("COUNT of all the others", x.left(11), 51);
        Due.due("all are gone", x.left(12), 52);
        Due.due("t by the one that is LEFT", x.left(13), 51 * 52);
        isShuffledThen(x, seed);
      }
    }
    Due.isSo("the dealer drew and stood", found >= 3 && stood >= 3);
  }

  /** "it is a HAND (LED, with points)": w by its plays, l, c and t as it began, what it hides, all that came of the cards. */
  private static void misdealIsAHand() {
    String[] watches = {"w*40+l", "w*40+c", "w*40+t/10", "w*40+r+b"};
    int[] without = {3, 47, 47 * 52 / 5 / 10, 3};
    for (int play = 0; play <= 2; play++) {
      boolean strayed = false, best = false;
      for (int seed = 0; seed < 6000 && !(strayed && best); seed++) {
        int w = misdealtBy(play, seed, watches[0], without[0]);
        if (w < 0 || (w == 1 ? strayed : best)) continue;
        strayed |= w == 1;
        best |= w == 0;
        for (int i = 1; i < watches.length; i++) misdealtBy(play, seed, watches[i], without[i]);
      }
      Due.isSo("MISDEALS by " + play + " with w and without", strayed && best);
    }
  }

  /** w of a MISDEAL that came with the last four cards and one play; -1 if none came. */
  private static int misdealtBy(int play, int seed, String watches, int without) {
    CardsGone x = nearTheEnd(0, seed, 48), asked = nearTheEnd(0, seed, 48);
    if (x == null || asked == null) return -1;
    Due.textByFours(x, 0, String.valueOf((char) ('0' + play)));
    Due.textByFours(x, 3, watches);
    x.play(0, 1);
    if (x.led(0, 7) == 0 || x.led(0, 4) == 0) return -1;
    int[] came = {x.led(0, 10), x.led(0, 30), x.led(0, 11), x.led(0, 31)};
    for (int i = 0; i < 4; i++) Due.due("card " + i, came[i], Due.shuffled(1, seed).get(48 + i));
    Due.due("two cards of the player", x.led(0, 2), 2);
    Due.due("two of the dealer, the hidden one, too", x.led(0, 3), 2);
    Due.due("no third one of the player", x.led(0, 12), Due.VOID);
    Due.due("no third one of the dealer", x.led(0, 32), Due.VOID);
    int hard = came[0] + came[2], total = (came[0] == 1 || came[2] == 1) ? 1010 + hard : hard;
    int w = asked.worth(total, came[1], 3) == play ? 0 : 1;
    Due.due("t as it began", x.led(0, 5), 47 * 52 / 5);
    Due.due("w of " + play + " at " + total + " against " + came[1], x.led(0, 8), w);
    Due.due("points by " + watches, x.led(0, 6), 40 * w + without);
    Due.due("what it hides", x.hides(), 40 * w);
    return w;
  }

  private static void betOfAMisdealIsTheNextOnesL() {
    int found = 0;
    for (int seed = 0; seed < 3000 && found < 3; seed++) {
      CardsGone x = nearTheEnd(0, seed, 48);
      if (x == null) continue;
      Due.text(x, 2, "5");
      Due.text(x, 0, "1");
      x.play(0, 1);
      if (x.led(0, 7) == 0) continue;
      found++;
      Due.text(x, 2, "7");
      Due.text(x, 3, "l");
      x.play(0, 2);
      Due.due("l behind a MISDEAL", x.led(0, 6), 5);
      Due.due("l then", x.led(1, 6), 7);
    }
    Due.due("MISDEALS", found, 3);
  }

  /** With five cards LEFT to take one may draw once. */
  private static void theLastCardIsNoMisdeal() {
    boolean taken = false, wanting = false;
    for (int seed = 0; seed < 6000 && !(taken && wanting); seed++) {
      CardsGone x = nearTheEnd(0, seed, 47);
      if (x == null) continue;
      Due.text(x, 0, "1");
      int hands = x.ofPlayer(0, 5);
      x.play(0, 1);
      int mine = 0;
      boolean ace = false;
      for (int i = 0; i < x.led(0, 2); i++) {
        mine += x.led(0, 10 + i);
        ace |= x.led(0, 10 + i) == 1;
      }
      int total = ace && mine <= 11 ? mine + 10 : mine;
      if (x.led(0, 4) == 0) continue;
      Due.due("HANDS", x.ofPlayer(0, 5), hands + 1);
      Due.due("the last one came", x.led(0, 2), 3);
      if (total < 21) {
        wanting = true;
        Due.due("one more is wanted", x.led(0, 7), 1);
        Due.due("plays", x.led(0, 4), 2);
      } else if (total > 21) {
        taken = true;
        Due.due("no more is wanted", x.led(0, 7), 0);
        Due.due("BET is lost", x.led(0, 1), -300);
        Due.due("all are gone", x.left(12), 52);
      }
    }
    Due.isSo("both came", taken && wanting);
  }

  /** "or a VALUE is not so": 0, 11 and beyond, at each card that is wanted; a byte of 266 is 10. */
  private static void valuesThatAreNotSo() {
    int[] cards = {10, 10, 2, 6, 3, 5, 5}, bad = {0, 11, 12, -1, 127, -128, -127, -118, 129, 138, 255, 256, 267};
    for (int at = 0; at < 7; at++) {
      for (int v : bad) {
        int[] some = cards.clone();
        some[at] = v;
        Due.due("a ROW with " + v + " at " + at, brings(with(0, "p<20"), some), -999999);
      }
      int[] some = cards.clone();
      some[at] += 256;
      Due.due("a ROW with " + some[at] + " at " + at, brings(with(0, "p<20"), some), -100);
    }
    Due.due("what is not wanted may be so or not", brings("p<20", 10, 10, 2, 6, 3, 5, 5, 0, 11), -100);
    for (int v = 1; v <= 10; v++) {
      int due = v == 1 ? 150 : 9 + v > 17 ? 100 : 9 + v == 17 ? 0 : -100;
      if (v != 1) Due.due("a " + v + " is so", brings("0", 9, 10, v, 7), due);
    }
    Due.due("an ACE is so", brings("0", 10, 9, 1, 10), 150);
  }

  /** "where the row is missing": a SHELF that held a ROW of cards, and holds nothing or a shorter one. */
  private static void rowsThatAreMissing() {
    CardsGone x = with(0, "0");
    Due.due("it is there", brings(x, 10, 10, 10, 7), 100);
    x.keep(0, -1);
    Due.due("it is missing", x.hand(0, 0, 0), -999999);
    Due.due("it is there again", brings(x, 10, 10, 10, 7), 100);
    x.keep(0, 0);
    Due.due("a PLAYER is", x.hand(0, 0, 0), -12);
    x.keep(0, -1);
    Due.due("it is missing", x.hand(0, 0, 0), -999999);
    Due.due("a shorter one", brings(x, 10, 10, 10), -999999);
  }

  /** Promise 14: "from place i on", "hand() with i below 0: as a ROW that ends there." */
  private static void placesOfARow() {
    CardsGone x = with(0, "0");
    Due.row(x, 0, 9, 10, 10, 10, 7);
    int[] ends = {-1, -2, Integer.MIN_VALUE, 2, 3, 4, 5, 6, 60, 61, Integer.MAX_VALUE};
    for (int i : ends) Due.due("hand(0, 0, " + i + ")", x.hand(0, 0, i), -999999);
    Due.due("from place 0 on: 9 and 10 against 20", x.hand(0, 0, 0), -100);
    Due.due("from place 1 on: 20 against 17", x.hand(0, 0, 1), 100);
    int[] sixty = new int[60];
    java.util.Arrays.fill(sixty, 10);
    Due.row(x, 0, sixty);
    Due.due("from place 56 of 60 on", x.hand(0, 0, 56), 0);
    Due.due("from place 57 of 60 on", x.hand(0, 0, 57), -999999);
  }

  /** A ROW that ends at each card is a MISDEAL, and none as long as no card is wanted. */
  private static void misdealOfARow() {
    int[] cards = {10, 10, 2, 6, 3, 5, 5};
    for (int n = 0; n <= 7; n++) {
      int[] some = java.util.Arrays.copyOf(cards, n);
      CardsGone x = with(0, "p<20");
      x.play(0, 2);
      int gone = x.left(12), left = x.left(0);
      Due.due("a ROW of " + n, brings(x, some), n < 7 ? -999999 : -100);
      Due.due("nothing of THE SHOE is gone", x.left(12), gone);
      Due.due("nor SEEN", x.left(0), left);
      x.play(0, 1);
      Due.due("it is not SHUFFLED by that", x.left(12), gone + x.led(0, 2) + x.led(0, 3));
    }
  }
}
