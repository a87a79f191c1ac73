/** Promises 22 to 31: how deep, lumps, words, what feigned hands hide, changes undone. */
public final class WordsTest {
  public static void main(String[] args) {
    deep();
    deepLeavesAll();
    deepOfOnesThatEnd();
    steps();
    where();
    together();
    words();
    hides();
    undone();
    fortyAreKept();
    purseUndone();
    Due.end();
  }

  /** A table made like it, with SEED and CUT told, plays the same HANDS. */
  private static CardsGone like(int kind, int purse, int packs) {
    CardsGone x = new CardsGone();
    x.player(kind, purse, -1);
    x.shoe(1, packs);
    Due.text(x, 0, "p<15;d>6?p<17;0");
    Due.text(x, 1, "v=1|v=10?-1;v<7");
    Due.text(x, 2, "t>0?t*3");
    Due.text(x, 3, "b+w*3");
    return x;
  }

  private static void deep() {
    int[] kinds = {0, 2, 5, 7};
    for (int kind : kinds) {
      for (int packs = 1; packs <= 4; packs += 3) {
        for (int seed = 3; seed <= 4; seed++) {
          int least = Integer.MAX_VALUE, first = 0;
          for (int cut = 10; cut <= 95; cut += 5) {
            CardsGone apart = like(kind, 40, packs);
            apart.limit(60);
            apart.shoe(2, cut);
            apart.shoe(0, seed);
            int brought = apart.play(0, 40);
            if (brought < least) {
              least = brought;
              first = cut;
            }
          }
          CardsGone x = like(kind, 40, packs);
          x.limit(60);
          Due.due("deep() of KIND " + kind + ", the CUT", x.deep(0, 40, seed, 0), first);
          Due.due("deep() of KIND " + kind + ", what it brings", x.deep(0, 40, seed, 1), least);
        }
      }
    }
    lastCut();
    CardsGone x = like(0, 40, 1);
    int[][] bad = {{1, 1, 0}, {-1, 1, 0}, {0, 0, 0}, {0, 41, 0}, {0, -1, 0}, {0, 1, 2}, {0, 1, -1}};
    for (int[] b : bad) Due.due("deep() that is not as said", x.deep(b[0], b[1], 5, b[2]), Due.VOID);
  }

  /** Seeds by which the last CUT, or one ahead of it, brings least. */
  private static void lastCut() {
    boolean atLast = false;
    for (int seed = 0; seed < 300 && !atLast; seed++) {
      CardsGone x = new CardsGone();
      x.player(0, 9999, 0);
      x.shoe(1, 1);
      int[] brought = new int[18];
      int first = 0;
      for (int i = 0; i < 18; i++) {
        CardsGone apart = new CardsGone();
        apart.player(0, 9999, 0);
        apart.shoe(1, 1);
        apart.shoe(2, 10 + 5 * i);
        apart.shoe(0, seed);
        brought[i] = apart.play(0, 40);
        if (brought[i] < brought[first]) first = i;
      }
      atLast = first == 17;
      Due.due("the CUT that brings least", x.deep(0, 40, seed, 0), 10 + 5 * first);
      Due.due("what it brings then", x.deep(0, 40, seed, 1), brought[first]);
    }
    Due.isSo("95 was least by some seed", atLast);
  }

  private static void deepLeavesAll() {
    CardsGone x = like(7, 9999, 2), y = like(7, 9999, 2);
    x.play(0, 7);
    y.play(0, 7);
    x.deep(0, 40, 99, 0);
    for (int h = 0; h < 7; h++) for (int what = 0; what < 50; what++) Due.due("LED", x.led(h, what), y.led(h, what));
    for (int what = 0; what <= 5; what++) Due.due("of the PLAYER", x.ofPlayer(0, what), y.ofPlayer(0, what));
    for (int what = 0; what <= 13; what++) Due.due("LEFT", x.left(what), y.left(what));
    Due.due("what comes then", x.play(0, 50), y.play(0, 50));
    for (int h = 0; h < 50; h++) for (int what = 0; what < 35; what++) Due.due("LED then", x.led(h, what), y.led(h, what));
    Due.due("SEED", x.shoe(0, 1), 0);
    Due.due("CUT", x.shoe(2, 50), 75);
  }

  private static void deepOfOnesThatEnd() {
    CardsGone x = new CardsGone();
    x.player(0, 0, 0);
    Due.due("nothing is brought at any CUT: the first", x.deep(0, 40, 1, 0), 10);
    Due.due("and nothing it is", x.deep(0, 40, 1, 1), 0);
    x.player(0, 1, 0);
    Due.isSo("it ends with PURSE below 100", x.deep(1, 40, 1, 1) >= -100);
  }

  private static void steps() {
    CardsGone x = new CardsGone();
    int[] bad = {0, 10, 60, -1, Integer.MIN_VALUE, Integer.MAX_VALUE};
    for (int v : bad) Due.due("step(" + v + ")", x.step(v), CardsGone.BAD);
    int[] good = {1, 9, 11, 59, 2, 3, 4, 5, 6, 7, 8, 12};
    for (int i = 0; i < good.length; i++) Due.due("step(" + good[i] + ")", x.step(good[i]), i + 1);
    Due.due("a thirteenth", x.step(1), CardsGone.FULL);
    Due.due("BAD ahead of FULL", x.step(10), CardsGone.BAD);
    Due.due("count(2)", x.count(2), 12);
    Due.due("unstep()", x.unstep(), 12);
    Due.due("unstep() of none", x.unstep(), 0);
    Due.due("count(2) then", x.count(2), 0);
  }

  private static void where() {
    CardsGone x = new CardsGone();
    for (int i = 0; i < 5; i++) Due.due("without steps", x.where(5, i), i);
    x.step(2);
    // 0 1 2 3 | 4 5 6: 0 1 4 5 2 3 6
    int[] riffled = {0, 1, 4, 5, 2, 3, 6};
    for (int i = 0; i < 7; i++) Due.due("a RIFFLE by 2 of 7, place " + i, x.where(7, riffled[i]), i);
    x.unstep();
    x.step(9);
    for (int i = 0; i < 9; i++) Due.due("a RIFFLE of pieces that take all", x.where(9, i), i);
    x.unstep();
    x.step(1);
    // 0 1 2 | 3 4: 0 3 1 4 2
    int[] ones = {0, 2, 4, 1, 3};
    for (int i = 0; i < 5; i++) Due.due("a RIFFLE by 1 of 5", x.where(5, i), ones[i]);
    x.unstep();
    x.step(13);
    for (int i = 0; i < 5; i++) Due.due("three from above go below", x.where(5, i), (i + 2) % 5);
    for (int i = 0; i < 2; i++) Due.due("no more than there are", x.where(2, i), i);
    x.step(1);
    // 3 4 0 | 1 2: 3 1 4 2 0
    int[] both = {4, 1, 3, 0, 2};
    for (int i = 0; i < 5; i++) Due.due("then a RIFFLE", x.where(5, i), both[i]);
    int[][] bad = {{1, 0}, {417, 0}, {5, 5}, {5, -1}, {-2, 0}, {Integer.MAX_VALUE, 0}, {416, 416}};
    for (int[] b : bad) Due.due("where(" + b[0] + ", " + b[1] + ")", x.where(b[0], b[1]), CardsGone.BAD);
    Due.isSo("where(416, 415)", x.where(416, 415) >= 0);
  }

  private static void together() {
    CardsGone x = new CardsGone();
    Due.due("without steps", x.together(416, 5415), 410);
    Due.due("one card", x.together(52, 7007), 0);
    Due.due("the first card", x.together(52, 0), 0);
    Due.due("all of two", x.together(2, 1), 1);
    x.step(1);
    Due.due("a RIFFLE by 1 of 5, cards 0 .. 2", x.together(5, 2), 4);
    Due.due("a RIFFLE by 1 of 5, cards 2 .. 3", x.together(5, 2003), 3);
    int[][] bad = {{52, 10005}, {52, 52}, {52, -1}, {1, 0}, {417, 0}, {52, 52052}, {52, Integer.MIN_VALUE}, {52, Integer.MAX_VALUE}};
    for (int[] b : bad) Due.due("together(" + b[0] + ", " + b[1] + ")", x.together(b[0], b[1]), CardsGone.BAD);
  }

  private static void words() {
    CardsGone x = new CardsGone();
    int[] bad = {-100, 100, Integer.MIN_VALUE};
    for (int b : bad) Due.due("word(" + b + ")", x.word(b), CardsGone.BAD);
    Due.due("heard(-1)", x.heard(-1), CardsGone.BAD);
    Due.due("heard(9)", x.heard(9), CardsGone.BAD);
    x.player(2, 9999, 0);
    x.shoe(1, 1);
    Due.text(x, 1, "v=1|v=10?-2;v<7?2");
    x.play(0, 60);
    Due.due("heard(0) without bounds", x.heard(0), 60);
    Due.due("heard(8) without bounds", x.heard(8), 0);
    int[] bounds = {-99, -4, -2, 0, 1, 3, 6, 7};
    for (int i = 0; i < 8; i++) {
      Due.due("word(" + bounds[i] + ")", x.word(bounds[i]), i + 1);
      Due.due("the same again", x.word(bounds[i]), CardsGone.BAD);
      int[] due = new int[9];
      for (int h = 0; h < 60; h++) {
        int number = 0;
        while (number <= i && bounds[number] <= x.led(h, 5)) number++;
        due[number]++;
      }
      for (int w = 0; w <= 8; w++) Due.due("heard(" + w + ") with " + (i + 1), x.heard(w), due[w]);
    }
    Due.due("a ninth", x.word(99), CardsGone.FULL);
    Due.due("BAD ahead of FULL", x.word(7), CardsGone.BAD);
    Due.due("count(3)", x.count(3), 8);
    x.purse(0, 0);
    x.play(0, 1);
    Due.due("heard(0) without HANDS", x.heard(0), 0);
  }

  private static void hides() {
    CardsGone x = new CardsGone();
    Due.due("hides() without HANDS", x.hides(), 0);
    x.player(0, 9999, 0);
    Due.text(x, 0, "1");
    Due.text(x, 3, "w*7+2");
    x.play(0, 30);
    int strayed = 0;
    for (int h = 0; h < 30; h++) strayed += x.led(h, 8);
    Due.isSo("some strayed", strayed > 0);
    Due.due("hides()", x.hides(), 7 * strayed);
    Due.text(x, 3, "9");
    Due.due("hides() by WATCHES as they were", x.hides(), 7 * strayed);
    Due.text(x, 3, "50-w*60");
    x.play(0, 30);
    strayed = 0;
    for (int h = 0; h < 30; h++) strayed += x.led(h, 8);
    Due.due("hides() below 0", x.hides(), -50 * strayed);
  }

  private static void undone() {
    CardsGone x = new CardsGone();
    Due.due("undo() of none", x.undo(), CardsGone.STATE);
    Due.due("redo() of none", x.redo(), CardsGone.STATE);
    x.rule(0, 1);
    x.rule(0, 1);
    x.limit(9999);
    Due.due("told the same is no CHANGE", x.count(4), 1);
    x.rule(0, 2);
    x.limit(0);
    x.purse(0, 5);
    Due.due("BAD is no CHANGE", x.count(4), 1);
    x.limit(50);
    x.rule(3, 16);
    Due.due("count(4)", x.count(4), 3);
    Due.due("undo()", x.undo(), 2);
    Due.due("undo()", x.undo(), 1);
    Due.due("redo()", x.redo(), 1);
    Due.due("LIMIT again, told the same", x.limit(50), 50);
    Due.due("redo()", x.redo(), 0);
    Due.due("RULE 3 again", x.rule(3, 16), 16);
    Due.due("redo() of none", x.redo(), CardsGone.STATE);
    x.undo();
    Due.due("RULE 3 as it was", x.rule(3, 18), 17);
    Due.due("another came behind", x.redo(), CardsGone.STATE);
    Due.due("count(4)", x.count(4), 3);
    x.undo();
    x.undo();
    x.undo();
    Due.due("undo() of none", x.undo(), CardsGone.STATE);
    Due.due("RULE 0 as at first", x.rule(0, 0), 0);
    Due.due("LIMIT as at first", x.limit(9999), 9999);
    Due.due("redo()", x.redo(), 2);
  }

  private static void fortyAreKept() {
    CardsGone x = new CardsGone();
    for (int i = 1; i <= 45; i++) x.limit(i);
    Due.due("count(4)", x.count(4), 40);
    for (int i = 39; i >= 0; i--) Due.due("undo()", x.undo(), i);
    Due.due("undo() of none", x.undo(), CardsGone.STATE);
    Due.due("LIMIT behind the eldest kept", x.limit(5), 5);
    for (int i = 39; i >= 0; i--) Due.due("redo()", x.redo(), i);
    Due.due("LIMIT as it was last", x.limit(45), 45);
  }

  private static void purseUndone() {
    CardsGone x = new CardsGone();
    x.player(0, 50, 0);
    x.purse(0, 50);
    Due.due("the same PURSE is no CHANGE", x.count(4), 0);
    x.purse(0, 70);
    x.play(0, 5);
    int purse = x.ofPlayer(0, 1);
    x.undo();
    Due.due("PURSE ahead of the telling", x.ofPlayer(0, 1), 5000);
    x.redo();
    Due.due("PURSE as told", x.ofPlayer(0, 1), 7000);
    x.rule(1, 155);
    x.purse(0, 9999);
    for (int i = 0; i < 60 && x.ofPlayer(0, 1) % 100 == 0; i++) x.play(0, 20);
    purse = x.ofPlayer(0, 1);
    Due.isSo("PURSE has hundredths", purse % 100 != 0);
    int had = x.count(4);
    x.purse(0, purse / 100);
    Due.due("the like units, another PURSE", x.count(4), had + 1);
    x.undo();
    Due.due("PURSE with its hundredths", x.ofPlayer(0, 1), purse);
  }
}
