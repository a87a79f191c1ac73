/** Section 1 of the document at its edges: the shoe, the shuffle, totals, rules, hands, misdeals. */
public final class TableEdgesTest {
  public static void main(String[] args) throws ReflectiveOperationException {
    constants();
    packsHaveTheirCards();
    packsAndCutsAtTheirBounds();
    wholeShoeAsShuffled();
    zIsZeroAtFirst();
    zGoesOn();
    seedToldTheSame();
    shuffledOnceHoweverOftenTold();
    refusedTellingsDoNotShuffle();
    burntOne();
    goneAtTheCutAndOneBelow();
    fiveGoneAtTheLeastCut();
    noneSeenBehindAShuffle();
    packsToldLeaveNoneGone();
    openOnesAreCountedAsTheyCome();
    hiddenOneIsLeftTillTheEnd();
    trueCountCutTowardZero();
    rulesAtTheirBounds();
    Due.end();
  }

  private static void constants() throws ReflectiveOperationException {
    String[] names = {"BAD", "NOT", "FULL", "STATE", "VOID"};
    int[] due = {-1, -2, -3, -5, -2000000000};
    for (int i = 0; i < 5; i++) Due.due(names[i], CardsGone.class.getField(names[i]).getInt(null), due[i]);
  }

  private static CardsGone with(int kind, String plays) {
    CardsGone x = new CardsGone();
    x.player(kind, 99999, -99);
    if (plays != null) Due.text(x, 0, plays);
    return x;
  }

  /** "A PACK has 4 of each of 1 .. 9 and 16 of 10." */
  private static void packsHaveTheirCards() {
    for (int packs = 1; packs <= 8; packs++) {
      CardsGone x = new CardsGone();
      x.shoe(1, packs);
      Due.due("left(0) of " + packs, x.left(0), packs * 52);
      for (int v = 1; v <= 9; v++) Due.due("left(" + v + ") of " + packs, x.left(v), packs * 4);
      Due.due("left(10) of " + packs, x.left(10), packs * 16);
    }
  }

  /** "PACKS 1 .. 8 (6 at first), CUT in hundredths (10 .. 95; 75 at first)." */
  private static void packsAndCutsAtTheirBounds() {
    CardsGone x = new CardsGone();
    int[][] told = {{1, 1, 6}, {1, 0, Due.VOID}, {1, 8, 1}, {1, 9, Due.VOID}, {1, 2, 8}, {2, 10, 75}, {2, 9, Due.VOID}, {2, 95, 10},
        {2, 96, Due.VOID}, {2, 50, 95}, {0, Integer.MAX_VALUE, 0}, {0, Integer.MIN_VALUE, Integer.MAX_VALUE}, {0, -1, Integer.MIN_VALUE},
        {0, CardsGone.VOID, -1}, {0, 0, CardsGone.VOID}};
    for (int[] t : told) Due.due("shoe(" + t[0] + ", " + t[1] + ")", x.shoe(t[0], t[1]), t[2]);
  }

  /** "for i from the last place down to 1: j = (z >>> 8) % (i + 1) .. (an int)": each card to the CUT, by seeds that wrap. */
  private static void wholeShoeAsShuffled() {
    int[] seeds = {0, 1, -1, Integer.MAX_VALUE, Integer.MIN_VALUE, 123456789};
    for (int packs = 1; packs <= 8; packs++) {
      for (int seed : seeds) {
        CardsGone x = with(0, "0");
        x.shoe(1, packs);
        x.shoe(2, 95);
        x.shoe(0, seed);
        java.util.List<Integer> cards = Due.shuffled(packs, seed);
        int place = 1, wrong = 0;
        boolean came = true;
        while (came && place < packs * 52 * 95 / 100) {
          x.play(0, 1);
          int[] order = {10, 30, 11, 31};
          for (int at : order) if (x.led(0, at) != cards.get(place++)) wrong++;
          for (int i = 2; i < x.led(0, 3); i++) if (place >= cards.size() || x.led(0, 30 + i) != cards.get(place++)) wrong++;
          came = x.led(0, 7) == 0;
        }
        Due.due("cards of " + packs + " by " + seed + " that are not as SHUFFLED", wrong, 0);
      }
    }
  }

  /** "z is SEED as that is told, at first 0" */
  private static void zIsZeroAtFirst() {
    CardsGone x = with(0, "0");
    x.play(0, 1);
    int[] order = {10, 30, 11, 31};
    for (int i = 0; i < 4; i++) Due.due("card " + i + " with no SEED told", x.led(0, order[i]), Due.shuffled(6, 0).get(1 + i));
  }

  /** "and goes on ever after": SHUFFLE after SHUFFLE, by PACKS and CUT told too, without SEED told. */
  private static void zGoesOn() {
    CardsGone x = with(0, "0");
    x.shoe(1, 1);
    x.shoe(0, 99);
    int z = 99;
    for (int i = 0; i < 6; i++) {
      int packs = i % 3 + 1;
      x.shoe(1, packs);
      x.play(0, 1);
      for (int k = 0; k < 2; k++) Due.due("card of SHUFFLE " + i, x.led(0, 10 + k), Due.shuffled(packs, z).get(1 + 2 * k));
      z = Due.zBehind(packs, z);
    }
    x.shoe(2, 60);
    x.play(0, 1);
    Due.due("first card as CUT was told", x.led(0, 10), Due.shuffled(3, z).get(1));
    Due.due("SEED is as it was told all the while", x.shoe(0, 7), 99);
  }

  /** "THE SHOE is SHUFFLED .. as SEED .. told, also the same": z begins again. */
  private static void seedToldTheSame() {
    CardsGone x = with(0, "0");
    for (int i = 0; i < 3; i++) {
      x.shoe(0, 41);
      x.play(0, 1);
      for (int k = 0; k < 2; k++) Due.due("card as SEED is told the same", x.led(0, 10 + k), Due.shuffled(6, 41).get(1 + 2 * k));
    }
  }

  private static void shuffledOnceHoweverOftenTold() {
    CardsGone x = with(0, "0");
    x.shoe(0, 15);
    x.play(0, 1);
    x.shoe(1, 6);
    x.shoe(1, 6);
    x.shoe(2, 75);
    x.shoe(2, 30);
    x.play(0, 1);
    int z = Due.zBehind(6, 15);
    for (int k = 0; k < 2; k++) Due.due("card of the second SHUFFLE", x.led(0, 10 + k), Due.shuffled(6, z).get(1 + 2 * k));
  }

  private static void refusedTellingsDoNotShuffle() {
    int[][] refused = {{1, 0}, {1, 9}, {2, 9}, {2, 96}, {3, 1}, {-1, 1}};
    for (int[] r : refused) {
      CardsGone x = with(0, "0");
      x.shoe(0, 8);
      x.play(0, 1);
      int gone = x.left(12);
      x.shoe(r[0], r[1]);
      x.play(0, 1);
      Due.due("first card behind a refused telling", x.led(0, 10), Due.shuffled(6, 8).get(gone));
      Due.due("how many are gone then", x.left(12), gone + x.led(0, 2) + x.led(0, 3));
    }
  }

  /** "The card at place 0 is BURNT: it is gone, not SEEN." */
  private static void burntOne() {
    for (int seed = 0; seed < 30; seed++) {
      CardsGone x = with(0, "0");
      Due.text(x, 1, "1");
      x.shoe(1, 1);
      x.shoe(0, seed);
      int burnt = Due.shuffled(1, seed).get(0);
      x.play(0, 1);
      int came = x.led(0, 2) + x.led(0, 3), like = 0;
      for (int i = 0; i < x.led(0, 2); i++) if (x.led(0, 10 + i) == burnt) like++;
      for (int i = 0; i < x.led(0, 3); i++) if (x.led(0, 30 + i) == burnt) like++;
      Due.due("gone with the BURNT one", x.left(12), came + 1);
      Due.due("all LEFT with the BURNT one", x.left(0), 52 - came);
      Due.due("LEFT of its VALUE", x.left(burnt), (burnt == 10 ? 16 : 4) - like);
      Due.due("COUNT without it", x.left(11), came);
    }
  }

  /** "ahead of a HAND when CUT hundredths (cut) of all its cards or more are gone" */
  private static void goneAtTheCutAndOneBelow() {
    // packs, CUT, so many gone: 49.4, 26 and 234 cut, and 9.88
    int[][] cuts = {{1, 95, 49}, {1, 50, 26}, {6, 75, 234}, {1, 19, 9}, {2, 33, 34}};
    for (int[] c : cuts) {
      boolean at = false, below = false, above = false;
      for (int seed = 0; seed < 600 && !(at && below && above); seed++) {
        CardsGone x = with(0, "0");
        x.shoe(1, c[0]);
        x.shoe(2, c[1]);
        x.shoe(0, seed);
        while (x.left(12) < c[2] - 1) x.play(0, 1);
        if (x.led(0, 7) == 1) continue;
        int gone = x.left(12);
        x.play(0, 1);
        boolean shuffled = x.left(12) == 1 + x.led(0, 2) + x.led(0, 3);
        String case0 = gone + " gone of " + c[0] + " packs at CUT " + c[1];
        Due.due("SHUFFLED with " + case0, shuffled ? 1 : 0, gone >= c[2] ? 1 : 0);
        if (shuffled) Due.due("first card with " + case0, x.led(0, 10), Due.shuffled(c[0], Due.zBehind(c[0], seed)).get(1));
        at |= gone == c[2];
        below |= gone == c[2] - 1;
        above |= gone > c[2];
      }
      Due.isSo("at CUT " + c[1] + " as many, one less and more were tried", at && below && above);
    }
  }

  /** 10 hundredths of 52 cards, cut, are 5: so many are gone behind the shortest HAND. */
  private static void fiveGoneAtTheLeastCut() {
    CardsGone x = with(0, "0");
    x.shoe(2, 10);
    Due.deal(x, 10, 9, 1, 9);
    int seed = x.shoe(0, 0);
    x.shoe(0, seed);
    x.play(0, 1);
    Due.due("gone behind a NATURAL", x.left(12), 5);
    x.play(0, 1);
    Due.due("it is SHUFFLED with 5 gone", x.left(12), 1 + x.led(0, 2) + x.led(0, 3));
    Due.due("its first card", x.led(0, 10), Due.shuffled(1, Due.zBehind(1, seed)).get(1));
  }

  /** "SEEN is none then, COUNT 0." */
  private static void noneSeenBehindAShuffle() {
    CardsGone x = with(2, "0");
    Due.text(x, 1, "9");
    x.shoe(1, 1);
    x.shoe(2, 10);
    for (int i = 0; i < 8; i++) {
      x.play(0, 1);
      int came = x.led(0, 2) + x.led(0, 3);
      Due.due("t as it began", x.led(0, 5), 0);
      Due.due("all LEFT", x.left(0), 52 - came);
      Due.due("COUNT", x.left(11), 9 * came);
      for (int v = 1; v <= 10; v++) {
        int seen = 0;
        for (int k = 0; k < x.led(0, 2); k++) if (x.led(0, 10 + k) == v) seen++;
        for (int k = 0; k < x.led(0, 3); k++) if (x.led(0, 30 + k) == v) seen++;
        Due.due("LEFT of " + v, x.left(v), (v == 10 ? 16 : 4) - seen);
      }
    }
  }

  /** Promise 3: "As SEED, PACKS, CUT are told it stays till the next HAND, but PACKS: then all are LEFT, none gone, COUNT 0." */
  private static void packsToldLeaveNoneGone() {
    CardsGone x = with(2, "0");
    Due.text(x, 1, "2");
    x.play(0, 5);
    int[] was = new int[14];
    for (int what = 0; what <= 13; what++) was[what] = x.left(what);
    Due.isSo("t is not 0", was[13] > 0);
    x.shoe(0, 3);
    for (int what = 0; what <= 13; what++) Due.due("left(" + what + ") as SEED is told", x.left(what), was[what]);
    x.shoe(2, 20);
    for (int what = 0; what <= 13; what++) Due.due("left(" + what + ") as CUT is told", x.left(what), was[what]);
    x.shoe(1, 6);
    for (int v = 1; v <= 10; v++) Due.due("left(" + v + ") as PACKS are told the same", x.left(v), v == 10 ? 96 : 24);
    Due.due("left(0) as PACKS are told the same", x.left(0), 312);
    for (int what = 11; what <= 13; what++) Due.due("left(" + what + ") as PACKS are told the same", x.left(what), 0);
    x.play(0, 5);
    x.shoe(1, 2);
    Due.due("left(0) of two packs", x.left(0), 104);
    for (int what = 11; what <= 13; what++) Due.due("left(" + what + ") of two packs", x.left(what), 0);
    Due.due("what is LEFT asks them all", x.whole(), new CardsGone().whole());
  }

  /** "Cards are SEEN, and counted, as they are open": PLAY is told COUNT of those that lie open. */
  private static void openOnesAreCountedAsTheyCome() {
    CardsGone x = with(2, "n=2&c=7|n=3&c=12");
    Due.text(x, 1, "v=2?1;v=3?2;v=4?4;v=5?5;9");
    Due.deal(x, 2, 3, 4, 10, 5, 10);
    x.play(0, 1);
    Due.due("it drew at 7 and at 12: cards", x.led(0, 2), 4);
    Due.due("plays, as it has 21 then", x.led(0, 4), 2);
  }

  /** "BURNT and hidden ones are LEFT", "the hidden one at the end". */
  private static void hiddenOneIsLeftTillTheEnd() {
    CardsGone x = with(3, "s=4");
    Due.text(x, 1, "v=1?9;0");
    Due.deal(x, 10, 9, 3, 1, 8);
    x.play(0, 1);
    Due.due("four ACES are LEFT with one hidden: it drew", x.led(0, 2), 3);
    Due.due("the hidden ACE", x.led(0, 31), 1);
    Due.due("ACES LEFT at the end", x.left(1), 3);
    Due.due("COUNT at the end", x.left(11), 9);
    CardsGone y = with(2, "c=0");
    Due.text(y, 1, "v=1?9;0");
    Due.deal(y, 10, 9, 3, 1, 8);
    y.play(0, 1);
    Due.due("the hidden one is not counted yet: it drew", y.led(0, 2), 3);
    CardsGone above = with(0, "1");
    Due.deal(above, 10, 9, 6, 7, 10);
    above.play(0, 1);
    Due.due("as the player is above 21 the hidden one is SEEN, too", above.left(7), 3);
    CardsGone natural = with(0, "1");
    Due.deal(natural, 10, 9, 1, 7);
    natural.play(0, 1);
    Due.due("as there is no play the hidden one is SEEN, too", natural.left(7), 3);
    Due.due("all LEFT then", natural.left(0), 48);
  }

  /** t: "COUNT times 52 by all LEFT (cut toward 0 ..)", by those LEFT with the BURNT and the hidden one. */
  private static void trueCountCutTowardZero() {
    // three open ones of 52, COUNT 1 and -1: 52 by 49 is 1 and a bit
    CardsGone x = with(2, "n=2&t=1");
    Due.text(x, 1, "v=3");
    Due.deal(x, 3, 9, 8, 8, 5);
    x.play(0, 1);
    Due.due("t is 1", x.led(0, 2), 3);
    CardsGone y = with(2, "n=2&t=-1");
    Due.text(y, 1, "-(v=3)");
    Due.deal(y, 3, 9, 8, 8, 5);
    y.play(0, 1);
    Due.due("t is -1, not -2", y.led(0, 2), 3);
    // in a shoe of six packs COUNT -1 and 1 are t 0
    for (String tags : new String[] {"-1", "1"}) {
      CardsGone z = with(2, "0");
      Due.text(z, 1, tags);
      z.play(0, 1);
      int came = z.led(0, 2) + z.led(0, 3);
      Due.isSo("COUNT is not 0", z.left(11) != 0 && came < 6);
      Due.due("t is cut to 0", z.left(13), 0);
    }
  }

  /** "RULES (told numbers): 0 .. (0; 0, 1), 1 .. (150; 100 .. 200), 2 .. (1; 0, 1), 3 .. (17; 15 .. 19)." */
  private static void rulesAtTheirBounds() {
    int[][] bounds = {{0, 1, 0}, {100, 200, 150}, {0, 1, 1}, {15, 19, 17}};
    for (int which = 0; which < 4; which++) {
      CardsGone x = new CardsGone();
      int least = bounds[which][0], most = bounds[which][1];
      Due.due("RULE " + which + " at first", x.rule(which, least), bounds[which][2]);
      Due.due("one below the least", x.rule(which, least - 1), CardsGone.BAD);
      Due.due("the greatest behind the least", x.rule(which, most), least);
      Due.due("one above the greatest", x.rule(which, most + 1), CardsGone.BAD);
      Due.due("the greatest stays", x.rule(which, least), most);
      int told = least;
      for (int v = least; v <= most; v++) {
        Due.due("rule(" + which + ", " + v + ")", x.rule(which, v), told);
        told = v;
      }
    }
    CardsGone x = new CardsGone();
    Due.due("rule(-1, 0)", x.rule(-1, 0), CardsGone.BAD);
    Due.due("rule(4, 0)", x.rule(4, 0), CardsGone.BAD);
  }
}
