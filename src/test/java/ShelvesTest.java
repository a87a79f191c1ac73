/** Promises 34 to 40: shelves, what is counted. */
public final class ShelvesTest {
  private static final long NO = Long.MIN_VALUE;

  public static void main(String[] args) {
    keep();
    lay();
    putAndElement();
    lowestBits();
    shift();
    shiftRefused();
    taken();
    counts();
    Due.end();
  }

  private static void keep() {
    CardsGone x = new CardsGone();
    Due.due("keep() of no PLAYER", x.keep(0, 0), CardsGone.BAD);
    x.player(2, 0, 0);
    Due.due("keep(0, 0)", x.keep(0, 0), 1);
    Due.due("keep(5, 0)", x.keep(5, 0), 1);
    int[][] bad = {{6, 0}, {-1, 0}, {0, 1}, {0, -2}, {6, -1}};
    for (int[] b : bad) Due.due("keep(" + b[0] + ", " + b[1] + ")", x.keep(b[0], b[1]), CardsGone.BAD);
    Due.due("it is there", x.taken(0, 0), 2);
    Due.due("keep(0, -1)", x.keep(0, -1), 1);
    Due.due("nothing is there", x.taken(0, 0), -11);
    Due.due("keep() of nothing on nothing", x.keep(1, -1), 1);
    x.lay(1, 0, 3);
    x.keep(1, 0);
    Due.due("a PLAYER instead of a ROW", x.put(1, 0, 1), -12);
    x.lay(1, 0, 3);
    Due.due("a ROW instead of a PLAYER", x.put(1, 0, 1), 1);
  }

  private static void lay() {
    CardsGone x = new CardsGone();
    for (int sort = 0; sort <= 4; sort++) {
      Due.due("lay() of 60", x.lay(sort, sort, 60), 1);
      for (int i = 0; i < 60; i++) Due.due("0 at first", x.element(sort, i), 0);
      Due.due("behind the last", x.element(sort, 60), NO);
      Due.due("nor put there", x.put(sort, 60, 1), -13);
    }
    int[][] bad = {{6, 0, 1}, {-1, 0, 1}, {0, 5, 1}, {0, -1, 1}, {0, 0, 61}, {0, 5, -1}, {6, 0, -1}, {0, 0, Integer.MAX_VALUE}};
    for (int[] b : bad) Due.due("lay() that is not as said", x.lay(b[0], b[1], b[2]), CardsGone.BAD);
    Due.due("a size below 0", x.lay(0, 0, -1), -14);
    Due.due("the least size", x.lay(0, 0, Integer.MIN_VALUE), -14);
    Due.due("the ROW stays", x.element(0, 59), 0);
    Due.due("lay() of 0", x.lay(0, 0, 0), 1);
    Due.due("no place", x.element(0, 0), NO);
    Due.due("nor put there", x.put(0, 0, 1), -13);
    for (int i = 0; i < 10; i++) x.put(1, i, 7);
    x.lay(1, 1, 10);
    for (int i = 0; i < 10; i++) Due.due("0 again", x.element(1, i), 0);
  }

  private static void putAndElement() {
    CardsGone x = new CardsGone();
    x.player(0, 0, 0);
    x.lay(0, 2, 5);
    x.keep(1, 0);
    for (int i = 0; i < 5; i++) Due.due("put", x.put(0, i, i * 11 - 20), 1);
    for (int i = 0; i < 5; i++) Due.due("element", x.element(0, i), i * 11 - 20);
    int[][] refused = {{6, 0, -1}, {-1, 0, -1}, {2, 0, -11}, {2, -1, -11}, {1, 0, -12}, {1, 99, -12}, {0, 5, -13}, {0, -1, -13},
        {0, Integer.MIN_VALUE, -13}, {0, Integer.MAX_VALUE, -13}};
    for (int[] r : refused) {
      Due.due("put(" + r[0] + ", " + r[1] + ")", x.put(r[0], r[1], 1), r[2]);
      Due.due("element(" + r[0] + ", " + r[1] + ")", x.element(r[0], r[1]), NO);
    }
  }

  private static void lowestBits() {
    CardsGone x = new CardsGone();
    long[] put = {300, 0xfedcba9876543210L, -1, 1L << 32, 128, 32768, 1L << 31, Long.MIN_VALUE, 256};
    for (int sort = 0; sort <= 4; sort++) {
      x.lay(sort, sort, 9);
      for (int i = 0; i < 9; i++) x.put(sort, i, put[i]);
    }
    for (int i = 0; i < 9; i++) {
      Due.due("a byte", x.element(0, i), (byte) put[i]);
      Due.due("a short", x.element(1, i), (short) put[i]);
      Due.due("an int", x.element(2, i), (int) put[i]);
      Due.due("a long", x.element(3, i), put[i]);
      Due.due("a boolean", x.element(4, i), 1);
    }
    x.put(4, 0, 0);
    Due.due("a boolean of 0", x.element(4, 0), 0);
  }

  private static void numbers(CardsGone x, int shelf, int n) {
    for (int i = 0; i < n; i++) x.put(shelf, i, i + 1);
  }

  private static void shift() {
    CardsGone x = new CardsGone();
    x.lay(0, 0, 6);
    x.lay(1, 0, 4);
    numbers(x, 0, 6);
    Due.due("shift to another", x.shift(0, 2, 1, 1, 3), 3);
    int[] other = {0, 3, 4, 5};
    for (int i = 0; i < 4; i++) Due.due("the other one", x.element(1, i), other[i]);
    Due.due("shift up in one", x.shift(0, 0, 0, 1, 5), 5);
    int[] up = {1, 1, 2, 3, 4, 5};
    for (int i = 0; i < 6; i++) Due.due("as they all were before", x.element(0, i), up[i]);
    numbers(x, 0, 6);
    Due.due("shift down in one", x.shift(0, 2, 0, 0, 4), 4);
    int[] down = {3, 4, 5, 6, 5, 6};
    for (int i = 0; i < 6; i++) Due.due("as they all were before", x.element(0, i), down[i]);
    numbers(x, 0, 6);
    Due.due("shift of some up in one", x.shift(0, 0, 0, 1, 2), 2);
    int[] some = {1, 1, 2, 4, 5, 6};
    for (int i = 0; i < 6; i++) Due.due("the rest stays", x.element(0, i), some[i]);
    Due.due("shift of some down in one", x.shift(0, 3, 0, 0, 2), 2);
    int[] less = {4, 5, 2, 4, 5, 6};
    for (int i = 0; i < 6; i++) Due.due("the rest stays", x.element(0, i), less[i]);
    Due.due("shift of all onto itself", x.shift(0, 0, 0, 0, 6), 6);
    Due.due("shift of none at the ends", x.shift(0, 6, 1, 4, 0), 0);
  }

  private static void shiftRefused() {
    CardsGone x = new CardsGone();
    x.player(0, 0, 0);
    x.lay(0, 0, 6);
    x.lay(1, 0, 4);
    x.lay(2, 1, 4);
    x.keep(3, 0);
    int most = Integer.MAX_VALUE, least = Integer.MIN_VALUE;
    int[][] refused = {{6, 0, 0, 0, 1, -1}, {0, 0, -1, 0, 1, -1}, {4, 0, 6, 0, 1, -1}, {4, 0, 0, 0, 1, -11}, {0, 0, 4, 0, 1, -11},
        {3, 0, 4, 0, 1, -11}, {3, 0, 0, 0, 1, -12}, {0, 0, 3, 0, 1, -12}, {3, 0, 3, 0, 1, -12}, {0, 0, 2, 0, 1, -12}, {2, 9, 0, 0, 1, -12},
        {0, 0, 1, 0, -1, -13}, {0, -1, 1, 0, 1, -13}, {0, 0, 1, -1, 1, -13}, {0, 0, 1, 0, 5, -13}, {0, 3, 0, 0, 4, -13},
        {0, 7, 1, 0, 0, -13}, {0, 0, 1, 5, 0, -13}, {0, 1, 1, 1, most, -13}, {0, most, 1, 0, most, -13}, {0, 0, 1, least, 1, -13},
        {0, 0, 1, 0, least, -13}};
    for (int[] r : refused) {
      String name = "shift(" + r[0] + ", " + r[1] + ", " + r[2] + ", " + r[3] + ", " + r[4] + ")";
      Due.due(name, x.shift(r[0], r[1], r[2], r[3], r[4]), r[5]);
    }
  }

  private static void taken() {
    CardsGone x = new CardsGone();
    boolean[][] under = new boolean[8][8];
    int[][] lines = {{0}, {1, 0}, {2, 1, 0}, {3, 2, 1, 0}, {4, 2, 1, 0}, {5, 0}, {6, 0}, {7, 5, 0}};
    for (int kind = 0; kind < 8; kind++) {
      x.player(kind, 0, 0);
      for (int k : lines[kind]) under[kind][k] = true;
    }
    for (int kind = 0; kind < 8; kind++) {
      x.keep(2, kind);
      for (int k = 0; k < 8; k++) Due.due("taken() of " + kind + " for " + k, x.taken(2, k), under[kind][k] ? kind : -12);
    }
    x.lay(1, 0, 3);
    Due.due("taken() of a ROW", x.taken(1, 0), -12);
    Due.due("taken() of nothing", x.taken(0, 0), -11);
    int[][] bad = {{6, 0}, {-1, 0}, {2, 8}, {2, -1}, {0, 8}};
    for (int[] b : bad) Due.due("taken(" + b[0] + ", " + b[1] + ")", x.taken(b[0], b[1]), CardsGone.BAD);
  }

  private static void counts() {
    CardsGone x = new CardsGone();
    x.player(0, 0, 0);
    x.player(7, 0, 0);
    x.feed(3, 0);
    for (int i = 1; i <= 4; i++) x.step(i);
    for (int i = 1; i <= 5; i++) x.word(i);
    for (int i = 1; i <= 6; i++) x.limit(i);
    x.act(1, 3, 1);
    int[] due = {2, 3, 4, 5, 6, 9};
    for (int what = 0; what <= 5; what++) Due.due("count(" + what + ")", x.count(what), due[what]);
    Due.due("count(6)", x.count(6), CardsGone.BAD);
    Due.due("count(-1)", x.count(-1), CardsGone.BAD);
  }
}
