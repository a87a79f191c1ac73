import java.util.ArrayList;
import java.util.List;

/** Section 4 of the document at its edges; promises 22 to 31. */
public final class WordEdgesTest {
  private static final int BAD = CardsGone.BAD, FULL = CardsGone.FULL, STATE = CardsGone.STATE;

  public static void main(String[] args) {
    deepAtEachCut();
    deepOfOneHand();
    deepHandsAtTheirBounds();
    deepOfOneThatPlaysNone();
    deepByAllAsNow();
    deepIsBackAsItWas();
    stepsAtTheirBounds();
    eachStepOfEachPile();
    stepsBehindOneAnother();
    pilesAtTheirBounds();
    liftsOfNoMoreThanThereAre();
    spans();
    boundsOfWords();
    boundsThatAreT();
    heardAtItsBounds();
    greatestAndLeastBounds();
    hidesOfNoHands();
    hidesWhereThePointsAreHeld();
    hidesAsTheyWereGiven();
    changesOfEachSort();
    toldTheSame();
    doneAgain();
    notChanges();
    fortyAtMost();
    Due.end();
  }

  private static CardsGone with(int kind, int purse) {
    CardsGone x = new CardsGone();
    x.player(kind, purse, -99);
    return x;
  }

  // ---- deep

  private static int brings(Twins.Made made, int player, int n, int seed, int cut) {
    CardsGone x = new CardsGone();
    made.on(x);
    x.shoe(2, cut);
    x.shoe(0, seed);
    return x.play(player, n);
  }

  /** What deep() has to answer is played apart, CUT by CUT: the CUT, and what it brings. */
  private static int isDeep(String name, Twins.Made made, int player, int n, int seed) {
    int first = 10, least = brings(made, player, n, seed, 10);
    for (int cut = 15; cut <= 95; cut += 5) {
      int brought = brings(made, player, n, seed, cut);
      if (brought < least) {
        least = brought;
        first = cut;
      }
    }
    CardsGone x = new CardsGone();
    made.on(x);
    Due.due("deep() the CUT, " + name, x.deep(player, n, seed, 0), first);
    Due.due("deep() what it brings, " + name, x.deep(player, n, seed, 1), least);
    return first;
  }

  /** "for CUTS 10, 15, .. 95": by some seed each of them is the first that brings least. */
  private static void deepAtEachCut() {
    boolean[] came = new boolean[96];
    int many = 0;
    for (int seed = 0; seed < 400 && many < 18; seed++) {
      int cut = isDeep("seed " + seed, x -> {
        x.player(0, 9999, 0);
        x.shoe(1, 1);
      }, 0, 40, seed);
      if (!came[cut]) many++;
      came[cut] = true;
    }
    Due.due("how many CUTS came", many, 18);
    // of eight packs 10 hundredths are 41 cards, 9 are 37, 11 are 45
    int first = 0;
    for (int seed = 0; seed < 40; seed++) {
      int cut = isDeep("eight packs, seed " + seed, x -> {
        x.player(0, 9999, 0);
        x.shoe(1, 8);
      }, 0, 40, seed);
      if (cut == 10) first++;
    }
    Due.isSo("the first CUT was it more than once", first > 1);
  }

  /** "the first CUT at which it brings least": one HAND is the same at all of them. */
  private static void deepOfOneHand() {
    boolean lost = false, won = false;
    for (int seed = -5; seed <= 5; seed++) {
      CardsGone x = with(0, 50);
      int brought = brings(y -> y.player(0, 50, 0), 0, 1, seed, 50);
      Due.due("the CUT of one HAND", x.deep(0, 1, seed, 0), 10);
      Due.due("what it brings", x.deep(0, 1, seed, 1), brought);
      lost |= brought < 0;
      won |= brought > 0;
    }
    Due.isSo("some won, some lost", lost && won);
    CardsGone x = with(0, 50);
    int[] seeds = {Integer.MIN_VALUE, Integer.MAX_VALUE};
    for (int seed : seeds) Due.due("by the SEED " + seed, x.deep(0, 1, seed, 1), brings(y -> y.player(0, 50, 0), 0, 1, seed, 75));
  }

  /** "n HANDS (1 .. 40)" */
  private static void deepHandsAtTheirBounds() {
    CardsGone x = with(0, 99999);
    int[] bad = {0, 41, -1, 60, Integer.MIN_VALUE, Integer.MAX_VALUE};
    for (int n : bad) Due.due("deep(0, " + n + ", 1, 0)", x.deep(0, n, 1, 0), Due.VOID);
    for (int n : bad) Due.due("deep(0, " + n + ", 1, 1)", x.deep(0, n, 1, 1), Due.VOID);
    int[] good = {1, 2, 39, 40};
    for (int n : good) isDeep(n + " HANDS", y -> y.player(0, 9999, 0), 0, n, 77);
    int[] whats = {-1, 2, Integer.MIN_VALUE, Integer.MAX_VALUE};
    for (int what : whats) Due.due("deep(0, 1, 1, " + what + ")", x.deep(0, 1, 1, what), Due.VOID);
    int[] none = {-1, 1, 9, 10};
    for (int player : none) Due.due("deep(" + player + ", 1, 1, 0)", x.deep(player, 1, 1, 0), Due.VOID);
  }

  /** With PURSE below 100, and BARRED, no HAND comes: 0 at the first CUT. */
  private static void deepOfOneThatPlaysNone() {
    CardsGone x = with(0, 0);
    Due.due("the CUT of none", x.deep(0, 40, 1, 0), 10);
    Due.due("what none bring", x.deep(0, 40, 1, 1), 0);
    Due.text(x, 3, "5");
    x.limit(5);
    x.purse(0, 500);
    x.play(0, 1);
    Due.due("BARRED", x.ofPlayer(0, 4), 1);
    Due.due("the CUT of a BARRED one", x.deep(0, 40, 1, 0), 10);
    Due.due("what a BARRED one brings", x.deep(0, 40, 1, 1), 0);
    x.limit(6);
    Due.isSo("by another LIMIT it plays one", Math.abs(x.deep(0, 40, 1, 1)) <= 200 && x.ofPlayer(0, 3) == 5);
  }

  /** "PURSE, points and all else as now": FEIGNED's third HAND, l, c, LIMIT, TEXTS, RULES, PACKS. */
  private static void deepByAllAsNow() {
    for (int ahead = 0; ahead <= 5; ahead++) {
      int hands = ahead;
      isDeep("FEIGNED behind " + hands + " HANDS", x -> {
        x.player(7, 500, -99);
        x.shoe(1, 2);
        Due.textByFours(x, 0, "2");
        if (hands > 0) x.play(0, hands);
      }, 0, 1, 6);
      isDeep("BARRED by points and l behind " + hands + " HANDS", x -> {
        x.player(2, 500, -99);
        x.shoe(1, 1);
        Due.textByFours(x, 1, "v=1|v=10?-1;v<7");
        Due.textByFours(x, 2, "t*5+3");
        Due.textByFours(x, 3, "l+w*4");
        x.limit(60);
        x.rule(0, 1);
        x.rule(2, 0);
        if (hands > 0) x.play(0, hands);
      }, 0, 40, 21 + hands);
      isDeep("PURSE out behind " + hands + " HANDS", x -> {
        x.player(3, 6, -99);
        x.shoe(1, 1);
        Due.textByFours(x, 2, "s/2+1");
        if (hands > 0) x.play(0, hands);
      }, 0, 40, 4 + hands);
    }
    for (int seed = 0; seed < 5; seed++) {
      isDeep("BARRED by w, seed " + seed, x -> {
        x.player(0, 500, 0);
        x.shoe(1, 1);
        Due.textByFours(x, 0, "p<19");
        Due.textByFours(x, 3, "w*20");
        x.limit(60);
      }, 0, 40, seed);
    }
    int beyond = 0;
    for (int seed = 0; seed < 20; seed++) {
      int one = seed;
      Twins.Made made = x -> {
        x.player(0, 3, 0);
        x.shoe(1, 1);
        Due.textByFours(x, 0, "2");
        Due.textByFours(x, 2, "3");
      };
      isDeep("a DOUBLE that is more than PURSE, seed " + seed, made, 0, 1, one);
      if (brings(made, 0, 1, one, 10) == -600) beyond++;
    }
    Due.isSo("some lost more than PURSE", beyond > 2);
    isDeep("BIG by its CALL", x -> {
      x.player(5, 500, 2);
      x.shoe(1, 1);
      Due.textByFours(x, 1, "v=1|v=10?-1;v<7");
      Due.textByFours(x, 2, "t*9");
    }, 0, 40, 9);
  }

  /** "and back as it was behind it, THE SHOE and z, too; LED stays" */
  private static void deepIsBackAsItWas() {
    for (int what = 0; what <= 1; what++) {
      int asked = what;
      CardsGone furnished = new CardsGone();
      Twins.furnish(furnished);
      for (int player = 0; player < 8; player += 7) {
        int who = player, due = furnished.deep(who, 40, 3, asked);
        Twins.refusedBehind(Twins::furnish, "deep() of player " + who, due, x -> x.deep(who, 40, 3, asked));
      }
      Twins.Made told = x -> {
        Twins.furnish(x);
        x.shoe(0, 44);
      };
      CardsGone y = new CardsGone();
      told.on(y);
      int due = y.deep(2, 40, 44, asked);
      Twins.refusedBehind(told, "deep() as SEED was told", due, x -> x.deep(2, 40, 44, asked));
      Twins.Made first = x -> x.player(2, 40, 0);
      CardsGone z = new CardsGone();
      first.on(z);
      int dueThen = z.deep(0, 40, 5, asked);
      Twins.refusedBehind(first, "deep() ahead of the first HAND", dueThen, x -> x.deep(0, 40, 5, asked));
    }
    CardsGone x = with(0, 500);
    x.deep(0, 5, 9, 0);
    Due.due("SEED", x.shoe(0, 1), 0);
    Due.due("CUT", x.shoe(2, 50), 75);
    Due.due("PACKS", x.shoe(1, 1), 6);
  }

  // ---- lumps

  private static void stepsAtTheirBounds() {
    for (int v = -2; v <= 62; v++) {
      CardsGone x = new CardsGone();
      boolean good = v >= 1 && v <= 9 || v >= 11 && v <= 59;
      Due.due("step(" + v + ")", x.step(v), good ? 1 : BAD);
      Due.due("count(2)", x.count(2), good ? 1 : 0);
    }
    CardsGone x = new CardsGone();
    Due.due("unstep() of none", x.unstep(), 0);
    for (int i = 1; i <= 12; i++) Due.due("step " + i, x.step(11), i);
    Due.due("a thirteenth", x.step(11), FULL);
    Due.due("a thirteenth that is none", x.step(10), BAD);
    Due.due("twelve cards went below", x.where(20, 0), 8);
    Due.due("unstep()", x.unstep(), 12);
    Due.due("no step then", x.where(20, 0), 0);
    Due.due("count(2)", x.count(2), 0);
    Due.due("a first again", x.step(11), 1);
    Due.due("it alone", x.where(20, 0), 19);
  }

  /** The cards as one step leaves them, laid out as the document says it. */
  private static List<Integer> stepped(List<Integer> cards, int step) {
    List<Integer> then = new ArrayList<>();
    int n = cards.size();
    if (step > 10) {
      for (int i = 0; i < n; i++) if (i >= step - 10) then.add(cards.get(i));
      for (int i = 0; i < n; i++) if (i < step - 10) then.add(cards.get(i));
      return then;
    }
    int half = n % 2 == 0 ? n / 2 : n / 2 + 1, first = 0, second = half;
    while (first < half || second < n) {
      for (int i = 0; i < step && first < half; i++) then.add(cards.get(first++));
      for (int i = 0; i < step && second < n; i++) then.add(cards.get(second++));
    }
    return then;
  }

  private static List<Integer> pile(int n) {
    List<Integer> cards = new ArrayList<>();
    for (int i = 0; i < n; i++) cards.add(i);
    return cards;
  }

  /** "1 .. 9 a RIFFLE of pieces of so many cards (the first half, the greater one, and the second one by turns, till both are out), 11 .. 59 .." */
  private static void eachStepOfEachPile() {
    int[] piles = {2, 3, 4, 5, 6, 7, 17, 18, 19, 20, 48, 49, 50, 52, 415, 416};
    for (int n : piles) {
      for (int step = 1; step <= 59; step++) {
        if (step == 10) continue;
        CardsGone x = new CardsGone();
        x.step(step);
        List<Integer> cards = stepped(pile(n), step);
        int wrong = 0;
        for (int i = 0; i < n; i++) if (x.where(n, cards.get(i)) != i) wrong++;
        Due.due("places of " + n + " that are wrong by step " + step, wrong, 0);
      }
    }
  }

  private static void stepsBehindOneAnother() {
    int[] steps = {1, 3, 59, 9, 11, 2, 40, 1, 1, 8, 25, 5};
    int[] piles = {2, 3, 13, 52, 103, 416};
    for (int n : piles) {
      CardsGone x = new CardsGone();
      List<Integer> cards = pile(n);
      for (int k = 0; k < 12; k++) {
        Due.due("step", x.step(steps[k]), k + 1);
        cards = stepped(cards, steps[k]);
        int ask = Math.min(n, 30), wrong = 0;
        for (int i = 0; i < ask; i++) if (x.where(n, cards.get(i * (n / ask))) != i * (n / ask)) wrong++;
        Due.due("places of " + n + " that are wrong behind " + (k + 1), wrong, 0);
      }
    }
  }

  /** "WHERE a card at a place of n cards (2 .. 416) comes to" */
  private static void pilesAtTheirBounds() {
    CardsGone x = new CardsGone();
    int[][] good = {{2, 0}, {2, 1}, {3, 2}, {416, 0}, {416, 415}, {415, 414}};
    for (int[] g : good) Due.due("where(" + g[0] + ", " + g[1] + ")", x.where(g[0], g[1]), g[1]);
    int[][] bad = {{1, 0}, {0, 0}, {417, 0}, {-2, 0}, {2, 2}, {2, -1}, {416, 416}, {415, 415}, {3, 3}};
    for (int[] b : bad) Due.due("where(" + b[0] + ", " + b[1] + ")", x.where(b[0], b[1]), BAD);
    x.step(1);
    Due.due("two riffled stay", x.where(2, 0), 0);
    Due.due("two riffled stay", x.where(2, 1), 1);
    Due.due("of three the second of the first half goes last", x.where(3, 1), 2);
    Due.due("of three the second half goes between", x.where(3, 2), 1);
  }

  /** "(of no more than there are)" */
  private static void liftsOfNoMoreThanThereAre() {
    int[] piles = {2, 3, 48, 49, 50};
    for (int n : piles) {
      for (int step = 11; step <= 59; step++) {
        CardsGone x = new CardsGone();
        x.step(step);
        int many = step - 10;
        Due.due("the first of " + n + " by " + step, x.where(n, 0), many >= n ? 0 : n - many);
        Due.due("the last of " + n + " by " + step, x.where(n, n - 1), many >= n ? n - 1 : n - 1 - many);
      }
    }
  }

  /** "TOGETHER: of cards a .. b the span (greatest less least place) they come to", "ab: 1000 a and b" */
  private static void spans() {
    CardsGone plain = new CardsGone();
    int[][] good = {{2, 0, 0}, {2, 1, 1}, {2, 1001, 0}, {52, 51, 51}, {52, 51051, 0}, {52, 50051, 1}, {416, 415, 415}, {416, 415415, 0},
        {416, 1415, 414}, {10, 3007, 4}};
    for (int[] g : good) Due.due("together(" + g[0] + ", " + g[1] + ")", plain.together(g[0], g[1]), g[2]);
    int[][] bad = {{1, 0}, {417, 0}, {0, 0}, {-5, 0}, {2, 2}, {2, 1000}, {2, 1002}, {2, 2002}, {52, 52}, {52, 51050}, {52, 52052}, {416, 416},
        {416, 416416}, {416, 999}, {52, -1}, {52, -1000}, {52, Integer.MIN_VALUE}, {52, Integer.MAX_VALUE}};
    for (int[] b : bad) Due.due("together(" + b[0] + ", " + b[1] + ")", plain.together(b[0], b[1]), BAD);
    int[] steps = {3, 20, 1, 7};
    for (int n : new int[] {2, 9, 52, 416}) {
      CardsGone x = new CardsGone();
      List<Integer> cards = pile(n);
      for (int step : steps) {
        x.step(step);
        cards = stepped(cards, step);
        for (int a = 0; a < n; a += 1 + n / 7) {
          for (int b = a; b < n; b += 1 + n / 5) {
            int least = n, most = -1;
            for (int i = a; i <= b; i++) {
              least = Math.min(least, cards.indexOf(i));
              most = Math.max(most, cards.indexOf(i));
            }
            Due.due("together(" + n + ", " + (1000 * a + b) + ")", x.together(n, 1000 * a + b), most - least);
          }
        }
      }
    }
  }

  // ---- words

  /** "bounds (-99 .. 99), as they come (0 .. 7), each above the one ahead" */
  private static void boundsOfWords() {
    CardsGone x = new CardsGone();
    int[][] told = {{-100, BAD}, {100, BAD}, {-99, 1}, {-99, BAD}, {-100, BAD}, {-98, 2}, {-99, BAD}, {0, 3}, {0, BAD}, {-1, BAD}, {1, 4},
        {50, 5}, {97, 6}, {98, 7}, {98, BAD}, {100, BAD}, {99, 8}, {99, BAD}, {100, BAD}, {0, BAD}};
    for (int[] t : told) Due.due("word(" + t[0] + ")", x.word(t[0]), t[1]);
    Due.due("count(3)", x.count(3), 8);
    CardsGone y = new CardsGone();
    for (int i = 0; i < 8; i++) Due.due("word(" + i + ")", y.word(i), i + 1);
    Due.due("a ninth", y.word(8), FULL);
    Due.due("a ninth that is none", y.word(7), BAD);
    CardsGone z = new CardsGone();
    Due.due("the greatest first", z.word(99), 1);
    Due.due("none is above it", z.word(99), BAD);
  }

  /** "the number of bounds that are t or less" */
  private static void boundsThatAreT() {
    for (int bound = -1; bound <= 1; bound++) {
      CardsGone x = with(0, 50);
      x.play(0, 7);
      x.word(bound);
      Due.due("of t 0 and the bound " + bound + " word 0", x.heard(0), bound > 0 ? 7 : 0);
      Due.due("of t 0 and the bound " + bound + " word 1", x.heard(1), bound > 0 ? 0 : 7);
    }
    CardsGone x = with(0, 99999);
    Due.text(x, 1, "v=1|v=10?-2;v<7?2");
    x.shoe(1, 1);
    x.shoe(2, 95);
    x.play(0, 60);
    int[] bounds = {-3, -2, 0, 2, 4};
    for (int b : bounds) x.word(b);
    int[] due = new int[9];
    boolean[] at = new boolean[5];
    for (int h = 0; h < 60; h++) {
      int number = 0;
      for (int i = 0; i < 5; i++) {
        if (x.led(h, 5) >= bounds[i]) number++;
        at[i] |= x.led(h, 5) == bounds[i];
      }
      due[number]++;
    }
    for (int word = 0; word <= 8; word++) Due.due("heard(" + word + ")", x.heard(word), due[word]);
    x.shoe(1, 1);
    x.shoe(0, 9);
    Due.text(x, 1, "1");
    for (int word = 0; word <= 8; word++) Due.due("heard(" + word + ") as they began, whatever is told", x.heard(word), due[word]);
    for (int i = 0; i < 5; i++) Due.isSo("some t was " + bounds[i], at[i]);
  }

  private static void heardAtItsBounds() {
    CardsGone x = new CardsGone();
    for (int word = 0; word <= 8; word++) Due.due("heard(" + word + ") without HANDS", x.heard(word), 0);
    Due.due("heard(-1)", x.heard(-1), BAD);
    Due.due("heard(9)", x.heard(9), BAD);
    x.player(0, 50, 0);
    x.play(0, 3);
    Due.due("heard(0) without bounds", x.heard(0), 3);
    for (int word = 1; word <= 8; word++) Due.due("heard(" + word + ") without bounds", x.heard(word), 0);
    for (int i = 0; i < 8; i++) x.word(i - 8);
    for (int word = 0; word <= 7; word++) Due.due("heard(" + word + ") with all below t", x.heard(word), 0);
    Due.due("heard(8) with all below t", x.heard(8), 3);
    Due.due("heard(9) with eight", x.heard(9), BAD);
    x.purse(0, 0);
    x.play(0, 3);
    Due.due("heard(8) of no HANDS", x.heard(8), 0);
  }

  private static void greatestAndLeastBounds() {
    for (int sign = -1; sign <= 1; sign += 2) {
      CardsGone x = with(0, 99999);
      Due.text(x, 0, "0");
      Due.text(x, 1, sign < 0 ? "-9" : "9");
      x.shoe(1, 1);
      x.shoe(2, 95);
      for (int i = 0; i < 12 && x.left(13) * sign <= 99; i++) x.play(0, 1);
      x.play(0, 1);
      Due.isSo("t is beyond all bounds", x.led(0, 5) * sign > 99);
      x.word(-99);
      x.word(99);
      Due.due("word 0", x.heard(0), sign < 0 ? 1 : 0);
      Due.due("word 1", x.heard(1), 0);
      Due.due("word 2", x.heard(2), sign < 0 ? 0 : 1);
    }
  }

  // ---- hides

  private static void hidesOfNoHands() {
    CardsGone x = new CardsGone();
    Due.due("hides() at first", x.hides(), 0);
    x.player(0, 50, 0);
    Due.text(x, 0, "1");
    x.play(0, 9);
    Due.due("hides() without WATCHES", x.hides(), 0);
    Due.text(x, 3, "w*5");
    x.play(0, 9);
    Due.isSo("hides() with w", x.hides() > 0);
    x.purse(0, 0);
    x.play(0, 9);
    Due.due("hides() of a call without HANDS", x.hides(), 0);
  }

  /** "points .. as they were given less as they would have been then with w 0": each of them held within 0 .. 99. */
  private static void hidesWhereThePointsAreHeld() {
    String[] texts = {"w*200", "50+w*200", "150+w*200", "50-w*200", "-50-w*9", "w*9", "100-w", "w-1", "w?7;9"};
    int[] given = {99, 99, 99, 0, 0, 9, 99, 0, 7}, without = {0, 50, 99, 50, 0, 0, 99, 0, 9};
    for (int i = 0; i < texts.length; i++) {
      CardsGone x = with(0, 500);
      Due.text(x, 0, "p<21");
      Due.text(x, 3, texts[i]);
      Due.deal(x, 10, 6, 10, 10, 1);
      x.play(0, 1);
      Due.due("it drew at 20", x.led(0, 8), 1);
      Due.due("points by " + texts[i], x.led(0, 6), given[i]);
      Due.due("hides() by " + texts[i], x.hides(), given[i] - without[i]);
      Due.text(x, 0, "0");
      Due.deal(x, 10, 6, 10, 10);
      x.play(0, 1);
      Due.due("it stood at 20", x.led(0, 8), 0);
      Due.due("points by " + texts[i], x.led(0, 6), without[i]);
      Due.due("hides() of none", x.hides(), 0);
    }
  }

  private static void hidesAsTheyWereGiven() {
    CardsGone x = with(0, 500);
    Due.text(x, 0, "1");
    Due.text(x, 3, "w*3+b");
    x.play(0, 20);
    int hides = x.hides(), strayed = 0;
    for (int h = 0; h < 20; h++) strayed += x.led(h, 8);
    Due.due("hides()", hides, 3 * strayed);
    Due.text(x, 3, "w*50");
    Due.text(x, 0, "0");
    x.rule(2, 0);
    x.purse(0, 1);
    Due.due("hides() stays as all that is told", x.hides(), hides);
    x.play(5, 1);
    Due.due("and by a refused call", x.hides(), hides);
  }

  // ---- changes

  /** "CHANGES (RULES, LIMIT, PURSES by telling) can be UNDONE, the latest first, and DONE AGAIN" */
  private static void changesOfEachSort() {
    CardsGone x = new CardsGone();
    for (int i = 0; i < 10; i++) x.player(0, 10 + i, 0);
    x.rule(0, 1);
    x.rule(1, 200);
    x.rule(2, 0);
    x.rule(3, 19);
    x.limit(77);
    for (int i = 0; i < 10; i++) x.purse(i, 900 + i);
    Due.due("count(4)", x.count(4), 15);
    for (int i = 9; i >= 0; i--) {
      Due.due("PURSE told", x.ofPlayer(i, 1), 90000 + 100 * i);
      Due.due("undo()", x.undo(), 5 + i);
      Due.due("PURSE as it was", x.ofPlayer(i, 1), 1000 + 100 * i);
    }
    int[] due = {4, 3, 2, 1, 0};
    for (int i : due) Due.due("undo()", x.undo(), i);
    Due.due("undo() of none", x.undo(), STATE);
    int[] first = {0, 150, 1, 17};
    for (int i = 0; i < 4; i++) Due.due("RULE " + i + " as at first", x.rule(i, first[i]), first[i]);
    Due.due("LIMIT as at first", x.limit(9999), 9999);
    for (int i = 1; i <= 15; i++) Due.due("redo()", x.redo(), 15 - i);
    Due.due("redo() of none", x.redo(), STATE);
    int[] told = {1, 200, 0, 19};
    for (int i = 0; i < 4; i++) Due.due("RULE " + i + " as told", x.rule(i, told[i]), told[i]);
    Due.due("LIMIT as told", x.limit(77), 77);
    for (int i = 0; i < 10; i++) Due.due("PURSE as told", x.ofPlayer(i, 1), 90000 + 100 * i);
    Due.due("count(4)", x.count(4), 15);
  }

  /** "(A CHANGE, if it becomes another one; UNDONE it is what it was ahead of the telling.)" */
  private static void toldTheSame() {
    CardsGone x = with(0, 10);
    x.purse(0, 10);
    x.rule(1, 150);
    x.limit(9999);
    Due.due("told the same is no CHANGE", x.count(4), 0);
    Due.due("undo() then", x.undo(), STATE);
    x.purse(0, 11);
    x.undo();
    x.purse(0, 10);
    Due.due("nor does it come behind one that may be DONE AGAIN", x.redo(), 0);
    Due.due("PURSE", x.ofPlayer(0, 1), 1100);
    x.rule(1, 199);
    x.purse(0, 1);
    Due.text(x, 0, "0");
    Due.deal(x, 1, 9, 10, 9);
    x.play(0, 1);
    Due.due("PURSE with hundredths", x.ofPlayer(0, 1), 299);
    int had = x.count(4);
    Due.due("the like units are another PURSE", x.purse(0, 2), 299);
    Due.due("a CHANGE", x.count(4), had + 1);
    x.undo();
    Due.due("UNDONE", x.ofPlayer(0, 1), 299);
    x.redo();
    Due.due("DONE AGAIN", x.ofPlayer(0, 1), 200);
    x.undo();
    x.undo();
    Due.due("what PURSE was ahead of an older telling, whatever it brought since", x.ofPlayer(0, 1), 1100);
  }

  /** "DONE AGAIN (as long as no other came behind)" */
  private static void doneAgain() {
    CardsGone x = new CardsGone();
    for (int v = 1; v <= 5; v++) x.limit(v);
    for (int i = 4; i >= 2; i--) Due.due("undo()", x.undo(), i);
    Due.due("redo()", x.redo(), 2);
    Due.due("redo()", x.redo(), 1);
    Due.due("LIMIT", x.limit(4), 4);
    x.undo();
    Due.due("another comes behind", x.limit(9), 3);
    Due.due("redo() then", x.redo(), STATE);
    Due.due("count(4)", x.count(4), 4);
    Due.due("undo()", x.undo(), 3);
    Due.due("that one is UNDONE", x.limit(3), 3);
    Due.due("redo()", x.redo(), 0);
    Due.due("it is DONE AGAIN", x.limit(9), 9);
    x.undo();
    x.limit(0);
    x.rule(0, 2);
    x.purse(0, 1);
    Due.due("refused ones do not come behind", x.redo(), 0);
  }

  /** What else is told is no CHANGE, and nothing to come behind one. */
  private static void notChanges() {
    CardsGone x = with(0, 50);
    x.limit(500);
    x.undo();
    x.shoe(0, 5);
    x.shoe(1, 2);
    x.shoe(2, 50);
    Due.text(x, 0, "1");
    x.player(1, 5, 0);
    x.play(0, 5);
    x.step(3);
    x.unstep();
    x.word(3);
    x.keep(0, 0);
    x.lay(1, 0, 3);
    x.put(1, 0, 3);
    x.act(0, 1, 1);
    x.deep(0, 3, 3, 0);
    x.ruled(1);
    Due.due("count(4)", x.count(4), 0);
    Due.due("undo()", x.undo(), STATE);
    Due.due("redo()", x.redo(), 0);
    Due.due("LIMIT", x.limit(500), 500);
    Due.due("what is UNDONE is no CHANGE itself", x.count(4), 1);
  }

  /** "40 at most are kept" */
  private static void fortyAtMost() {
    for (int many = 39; many <= 42; many++) {
      CardsGone x = new CardsGone();
      for (int v = 1; v <= many; v++) x.limit(v);
      int kept = Math.min(40, many);
      Due.due("count(4) of " + many, x.count(4), kept);
      for (int i = kept - 1; i >= 0; i--) Due.due("undo() of " + many, x.undo(), i);
      Due.due("no more", x.undo(), STATE);
      int due = many <= 40 ? 9999 : many - 40;
      Due.due("LIMIT ahead of those kept", x.limit(due), due);
      for (int i = kept - 1; i >= 0; i--) Due.due("redo() of " + many, x.redo(), i);
      Due.due("LIMIT behind them", x.limit(many), many);
    }
    fortyOfAllSorts();
    CardsGone x = new CardsGone();
    for (int v = 1; v <= 40; v++) x.limit(v);
    x.undo();
    x.limit(50);
    Due.due("one instead of one UNDONE", x.count(4), 40);
    for (int i = 39; i >= 0; i--) x.undo();
    Due.due("LIMIT as at first", x.limit(9999), 9999);
    for (int i = 39; i >= 0; i--) x.redo();
    x.limit(51);
    Due.due("one more", x.count(4), 40);
    for (int i = 39; i >= 0; i--) x.undo();
    Due.due("LIMIT behind the eldest", x.limit(1), 1);
  }

  /** 47 of LIMIT, two PURSES and RULE 1 by turns: each of the 40 that are kept is UNDONE and DONE AGAIN as it came. */
  private static void fortyOfAllSorts() {
    CardsGone x = new CardsGone();
    x.player(0, 0, 0);
    x.player(0, 0, 0);
    int[][] as = new int[48][];
    as[0] = new int[] {9999, 0, 0, 150};
    for (int i = 1; i <= 47; i++) {
      as[i] = as[i - 1].clone();
      int sort = i * 7 % 4;
      as[i][sort] = sort == 3 ? 100 + i : i;
      if (sort == 0) x.limit(i);
      else if (sort == 3) x.rule(1, 100 + i);
      else x.purse(sort - 1, i);
    }
    Due.due("count(4)", x.count(4), 40);
    for (int i = 46; i >= 7; i--) {
      Due.due("undo()", x.undo(), i - 7);
      areSo(x, as[i], "behind the undo() of " + (i + 1));
    }
    Due.due("undo() of none", x.undo(), STATE);
    for (int i = 8; i <= 47; i++) {
      Due.due("redo()", x.redo(), 47 - i);
      areSo(x, as[i], "behind the redo() of " + i);
    }
    Due.due("redo() of none", x.redo(), STATE);
  }

  /** LIMIT, two PURSES and RULE 1, told the same, which is no CHANGE. */
  private static void areSo(CardsGone x, int[] due, String name) {
    Due.due("LIMIT " + name, x.limit(due[0]), due[0]);
    Due.due("PURSE of 0 " + name, x.ofPlayer(0, 1), 100 * due[1]);
    Due.due("PURSE of 1 " + name, x.ofPlayer(1, 1), 100 * due[2]);
    Due.due("RULE 1 " + name, x.rule(1, due[3]), due[3]);
  }
}
