/** Section 5 of the document at its edges; promises 32 to 40. */
public final class ShelfEdgesTest {
  private static final int BAD = CardsGone.BAD, NOTHING = -11, KIND = -12, PLACE = -13, SIZE = -14;
  private static final long NO = Long.MIN_VALUE;

  public static void main(String[] args) {
    actsThatWrap();
    actsAndPlayersAtTheirBounds();
    actsThatAreNot();
    traceOfTheLatestAct();
    longestTrace();
    shelvesAtTheirBounds();
    nothingAtFirst();
    whatIsKeptTakesThePlace();
    sortsAndSizesAtTheirBounds();
    refusedRowsLeaveTheShelf();
    placesAtTheirBounds();
    lowestBitsAtTheirBounds();
    leastLong();
    orderOfRefusals();
    shiftsOfAllSorts();
    shiftsWithinOneRow();
    shiftsOfNone();
    shiftsOutOfPlace();
    takenByKind();
    takenOfOneThatPlays();
    countsAtTheirBounds();
    Due.end();
  }

  private static CardsGone ofAllKinds() {
    CardsGone x = new CardsGone();
    for (int kind = 0; kind < 8; kind++) x.player(kind, 5, 0);
    return x;
  }

  // ---- acts

  private static int plays(int kind, int x) {
    return kind == 3 ? x + 3 - 1 : kind == 6 ? x + 1 + 6 : x + kind;
  }

  private static int counts(int kind, int x) {
    int twice = plays(kind, x) * 2;
    if (kind >= 1 && kind <= 4) return twice + 3;
    if (kind == 5) return -twice;
    return kind == 7 ? -twice + bets(7, 2) : twice;
  }

  private static int bets(int kind, int x) {
    int plain = x ^ kind;
    if (kind == 4) return plain * 3 - plays(4, 2);
    return kind == 2 || kind == 3 ? plain * 3 : plain;
  }

  private static int tells(int kind, int x) {
    int plain = counts(kind, x) - bets(kind, 1);
    return kind == 5 ? plain ^ 5 : kind == 7 ? (plain ^ 5) * 2 : plain;
  }

  /** "x (an int that wraps)"; "n its number", which is its KIND here. */
  private static void actsThatWrap() {
    CardsGone x = ofAllKinds();
    int[] values = {0, 1, -1, 5, Integer.MAX_VALUE, Integer.MAX_VALUE - 1, Integer.MIN_VALUE, Integer.MIN_VALUE + 1, 1 << 30, -(1 << 30)};
    for (int kind = 0; kind < 8; kind++) {
      for (int v : values) {
        Due.due("plays of " + kind + " with " + v, x.act(kind, 0, v), plays(kind, v));
        Due.due("counts of " + kind + " with " + v, x.act(kind, 1, v), counts(kind, v));
        Due.due("bets of " + kind + " with " + v, x.act(kind, 2, v), bets(kind, v));
        Due.due("tells of " + kind + " with " + v, x.act(kind, 3, v), tells(kind, v));
      }
    }
    CardsGone y = new CardsGone();
    for (int i = 0; i < 10; i++) y.player(4, 5, 0);
    for (int n = 0; n < 10; n++) Due.due("SIGNALLING bets as number " + n, y.act(n, 2, 7), (7 ^ n) * 3 - (2 + n));
  }

  /** "0, and no TRACE then: no such PLAYER, ACT." */
  private static void actsAndPlayersAtTheirBounds() {
    CardsGone x = new CardsGone();
    Due.due("act(0, 0, 9) with no PLAYER", x.act(0, 0, 9), 0);
    x.player(0, 5, 0);
    x.player(0, 5, 0);
    int[][] none = {{-1, 0}, {2, 0}, {9, 0}, {10, 0}, {1, -1}, {1, 4}, {Integer.MIN_VALUE, 0}, {Integer.MAX_VALUE, 3}, {0, Integer.MIN_VALUE}};
    for (int[] n : none) {
      Due.due("act(1, 3, 9)", x.act(1, 3, 9), 20);
      Due.due("count(5)", x.count(5), 4);
      Due.due("act(" + n[0] + ", " + n[1] + ", 9)", x.act(n[0], n[1], 9), 0);
      Due.due("count(5) then", x.count(5), 0);
      for (int i = 0; i < 4; i++) Due.due("trace(" + i + ") then", x.trace(i), BAD);
    }
    int[][] good = {{0, 0, 9}, {1, 0, 10}, {0, 3, 17}, {1, 3, 20}};
    for (int[] g : good) Due.due("act(" + g[0] + ", " + g[1] + ", 9)", x.act(g[0], g[1], 9), g[2]);
  }

  private static void actsThatAreNot() {
    CardsGone x = ofAllKinds();
    int[] none = {Integer.MIN_VALUE, -5, -4, -3, -2, -1, 4, 5, 6, 7, 8, Integer.MAX_VALUE};
    for (int kind = 0; kind < 8; kind++) {
      for (int act : none) {
        Due.due("act(" + kind + ", " + act + ", 9)", x.act(kind, act, 9), 0);
        Due.due("no TRACE then", x.count(5), 0);
      }
    }
  }

  /** "THE TRACE: numbers of the bodies that ran in the latest act(), as they began" */
  private static void traceOfTheLatestAct() {
    CardsGone x = ofAllKinds();
    Due.due("trace(0) at first", x.trace(0), BAD);
    Due.due("count(5) at first", x.count(5), 0);
    x.act(4, 3, 1);
    int[] due = {2, 20, 10, 1, 50, 30, 11, 1};
    for (int i = 0; i < due.length; i++) Due.due("trace(" + i + ")", x.trace(i), due[i]);
    Due.due("behind the last", x.trace(due.length), BAD);
    Due.due("ahead of the first", x.trace(-1), BAD);
    x.act(0, 0, 1);
    Due.due("the latest alone", x.trace(0), 1);
    Due.due("nothing of the one ahead", x.trace(1), BAD);
    Due.due("count(5)", x.count(5), 1);
    x.play(0, 3);
    Due.due("HANDS leave it", x.trace(0), 1);
  }

  /** "the first 24 are kept": no KIND has more than 9. */
  private static void longestTrace() {
    CardsGone x = ofAllKinds();
    int most = 0;
    for (int kind = 0; kind < 8; kind++) {
      for (int act = 0; act < 4; act++) {
        x.act(kind, act, 3);
        int ran = x.count(5);
        most = Math.max(most, ran);
        Due.isSo("all are kept", x.trace(ran - 1) > 0);
        Due.due("no more than ran", x.trace(ran), BAD);
      }
    }
    Due.due("the most bodies", most, 9);
    for (int i = 9; i <= 24; i++) Due.due("trace(" + i + ")", x.trace(i), BAD);
  }

  // ---- shelves

  /** "SHELVES 0 .. 5" */
  private static void shelvesAtTheirBounds() {
    CardsGone x = new CardsGone();
    x.player(0, 5, 0);
    int[] bad = {-1, 6, Integer.MIN_VALUE, Integer.MAX_VALUE};
    for (int s : bad) {
      Due.due("keep(" + s + ", 0)", x.keep(s, 0), BAD);
      Due.due("keep(" + s + ", -1)", x.keep(s, -1), BAD);
      Due.due("lay(" + s + ", 0, 1)", x.lay(s, 0, 1), BAD);
      Due.due("lay(" + s + ", 0, -1)", x.lay(s, 0, -1), BAD);
      Due.due("put(" + s + ", 0, 1)", x.put(s, 0, 1), BAD);
      Due.due("element(" + s + ", 0)", x.element(s, 0), NO);
      Due.due("shift(" + s + ", ..)", x.shift(s, 0, 0, 0, 0), BAD);
      Due.due("shift(.., " + s + ", ..)", x.shift(0, 0, s, 0, 0), BAD);
      Due.due("taken(" + s + ", 0)", x.taken(s, 0), BAD);
      Due.due("hand(0, " + s + ", 0)", x.hand(0, s, 0), Due.VOID);
    }
    for (int s = 0; s <= 5; s++) {
      Due.due("keep(" + s + ", 0)", x.keep(s, 0), 1);
      Due.due("taken(" + s + ", 0)", x.taken(s, 0), 0);
      Due.due("lay(" + s + ", 3, 2)", x.lay(s, 3, 2), 1);
      Due.due("put(" + s + ", 1, 5)", x.put(s, 1, 5 + s), 1);
      Due.due("keep(" + s + ", -1)", x.keep(s, -1), 1);
      Due.due("it holds nothing", x.put(s, 1, 5), NOTHING);
      x.lay(s, 3, 2);
      x.put(s, 0, 40 + s);
    }
    for (int s = 0; s <= 5; s++) Due.due("each holds its own", x.element(s, 0), 40 + s);
  }

  /** "each hold nothing (at first)" */
  private static void nothingAtFirst() {
    CardsGone x = new CardsGone();
    x.player(0, 5, 0);
    for (int s = 0; s <= 5; s++) {
      Due.due("put()", x.put(s, 0, 1), NOTHING);
      Due.due("element()", x.element(s, 0), NO);
      Due.due("taken()", x.taken(s, 0), NOTHING);
      Due.due("shift()", x.shift(s, 0, s, 0, 0), NOTHING);
      Due.due("hand(): it is missing", x.hand(0, s, 0), -999999);
    }
  }

  private static void whatIsKeptTakesThePlace() {
    CardsGone x = ofAllKinds();
    x.lay(0, 0, 3);
    x.put(0, 1, 9);
    Due.due("a PLAYER for a ROW", x.keep(0, 6), 1);
    Due.due("put() on it", x.put(0, 1, 1), KIND);
    Due.due("taken()", x.taken(0, 6), 6);
    Due.due("another PLAYER", x.keep(0, 7), 1);
    Due.due("taken()", x.taken(0, 5), 7);
    Due.due("a ROW for a PLAYER", x.lay(0, 0, 3), 1);
    Due.due("its elements are 0", x.element(0, 1), 0);
    Due.due("taken()", x.taken(0, 0), KIND);
    Due.due("nothing for a ROW", x.keep(0, -1), 1);
    Due.due("element()", x.element(0, 1), NO);
    Due.due("nothing for nothing", x.keep(0, -1), 1);
    x.lay(0, 1, 0);
    Due.due("a PLAYER for a ROW of none", x.keep(0, 6), 1);
    Due.due("taken()", x.taken(0, 0), 6);
    for (int s = 0; s < 3; s++) Due.due("one PLAYER on more than one", x.keep(s, 2), 1);
    for (int s = 0; s < 3; s++) Due.due("it is there", x.taken(s, 1), 2);
    int[] none = {-2, 8, 9, 10, Integer.MIN_VALUE, Integer.MAX_VALUE};
    for (int p : none) Due.due("keep(0, " + p + ")", x.keep(0, p), BAD);
    Due.due("it is there still", x.taken(0, 1), 2);
  }

  /** "a ROW: of 0 bytes, 1 shorts, 2 ints, 3 longs, 4 booleans, of 0 .. 60 elements, 0 at first (false)" */
  private static void sortsAndSizesAtTheirBounds() {
    int[] sizes = {0, 1, 59, 60};
    for (int sort = 0; sort <= 4; sort++) {
      for (int n : sizes) {
        CardsGone x = new CardsGone();
        Due.due("lay(0, " + sort + ", " + n + ")", x.lay(0, sort, n), 1);
        for (int i = 0; i < n; i++) Due.due("0 at first", x.element(0, i), 0);
        Due.due("behind the last", x.element(0, n), NO);
        Due.due("put() behind the last", x.put(0, n, 1), PLACE);
        for (int i = 0; i < n; i++) Due.due("put()", x.put(0, i, 1), 1);
        x.lay(0, sort, n);
        for (int i = 0; i < n; i++) Due.due("0 at first again", x.element(0, i), 0);
      }
    }
    CardsGone x = new CardsGone();
    int[][] bad = {{-1, 1}, {5, 1}, {Integer.MIN_VALUE, 1}, {Integer.MAX_VALUE, 1}, {0, 61}, {4, 61}, {0, Integer.MAX_VALUE}, {5, -1}, {-1, -1}, {5, 61}};
    for (int[] b : bad) Due.due("lay(0, " + b[0] + ", " + b[1] + ")", x.lay(0, b[0], b[1]), BAD);
    int[] below = {-1, -61, Integer.MIN_VALUE};
    for (int n : below) for (int sort = 0; sort <= 4; sort++) Due.due("lay(0, " + sort + ", " + n + ")", x.lay(0, sort, n), SIZE);
    Due.due("nothing was laid", x.put(0, 0, 1), NOTHING);
  }

  private static void refusedRowsLeaveTheShelf() {
    CardsGone x = ofAllKinds();
    x.lay(0, 1, 4);
    x.put(0, 3, 300);
    x.lay(0, 1, -1);
    x.lay(0, 1, 61);
    x.lay(0, 5, 1);
    x.keep(0, 8);
    Due.due("the ROW stays", x.element(0, 3), 300);
    x.keep(1, 3);
    x.lay(1, 0, -1);
    x.lay(1, 0, 61);
    Due.due("the PLAYER stays", x.taken(1, 2), 3);
  }

  /** "-13 a place that is not there" */
  private static void placesAtTheirBounds() {
    int[] sizes = {1, 2, 60};
    for (int sort = 0; sort <= 4; sort++) {
      for (int n : sizes) {
        CardsGone x = new CardsGone();
        x.lay(3, sort, n);
        int[] in = {0, n - 1}, out = {-1, n, n + 1, 60, 61, Integer.MIN_VALUE, Integer.MAX_VALUE};
        for (int i : in) Due.due("put() at " + i + " of " + n, x.put(3, i, 1), 1);
        for (int i : in) Due.due("element() " + i + " of " + n, x.element(3, i), 1);
        for (int i : out) Due.due("put() at " + i + " of " + n, x.put(3, i, 1), PLACE);
        for (int i : out) Due.due("element() " + i + " of " + n, x.element(3, i), NO);
      }
    }
  }

  /** "what is put in keeps its lowest bits (a boolean: whether it is not 0; 1 or 0)" */
  private static void lowestBitsAtTheirBounds() {
    long[] values = {0, 1, -1, 127, 128, 129, 255, 256, -128, -129, 32767, 32768, 65535, 65536, -32768, -32769, Integer.MAX_VALUE,
        Integer.MAX_VALUE + 1L, 0xffffffffL, 1L << 32, Integer.MIN_VALUE, Integer.MIN_VALUE - 1L, Long.MAX_VALUE, Long.MIN_VALUE};
    for (int sort = 0; sort <= 4; sort++) {
      CardsGone x = new CardsGone();
      x.lay(sort, sort, values.length);
      for (int i = 0; i < values.length; i++) {
        long v = values[i];
        long due = sort == 0 ? (byte) v : sort == 1 ? (short) v : sort == 2 ? (int) v : sort == 3 ? v : v != 0 ? 1 : 0;
        Due.due("put of " + v + " in sort " + sort, x.put(sort, i, v), 1);
        Due.due("element of " + v + " in sort " + sort, x.element(sort, i), due);
      }
      Due.due("0 again", x.put(sort, 1, 0), 1);
      Due.due("0 again", x.element(sort, 1), 0);
    }
  }

  /** A ROW of longs may hold what is answered where there is no element. */
  private static void leastLong() {
    CardsGone x = new CardsGone();
    x.lay(0, 3, 1);
    Due.due("put() of the least", x.put(0, 0, NO), 1);
    Due.due("element()", x.element(0, 0), NO);
    x.lay(1, 3, 1);
    Due.due("it is an element like others", x.shift(0, 0, 1, 0, 1), 1);
    x.put(0, 0, 7);
    x.shift(1, 0, 0, 0, 1);
    Due.due("shifted", x.element(0, 0), NO);
  }

  /** "Answers, of several the one named first" */
  private static void orderOfRefusals() {
    CardsGone x = ofAllKinds();
    x.keep(0, 0);
    x.lay(1, 0, 2);
    x.lay(2, 1, 2);
    Due.due("put(): BAD ahead of -11", x.put(9, -5, 1), BAD);
    Due.due("put(): -11 ahead of -13", x.put(3, -5, 1), NOTHING);
    Due.due("put(): -12 ahead of -13", x.put(0, -5, 1), KIND);
    Due.due("put(): -13", x.put(1, -5, 1), PLACE);
    Due.due("lay(): BAD ahead of -14", x.lay(6, 0, -1), BAD);
    Due.due("lay(): BAD ahead of -14", x.lay(0, 9, -1), BAD);
    Due.due("shift(): BAD ahead of -11", x.shift(3, 0, 9, 0, 1), BAD);
    Due.due("shift(): BAD ahead of -12", x.shift(0, 0, 9, 0, 1), BAD);
    Due.due("shift(): BAD ahead of -13", x.shift(1, 5, 9, 0, 1), BAD);
    Due.due("shift(): -11 ahead of -12, either way", x.shift(0, 0, 3, 0, 1), NOTHING);
    Due.due("shift(): -11 ahead of -12, either way", x.shift(3, 0, 0, 0, 1), NOTHING);
    Due.due("shift(): -11 ahead of -13", x.shift(3, -1, 1, 9, -1), NOTHING);
    Due.due("shift(): -12 ahead of -13", x.shift(0, -1, 1, 9, -1), KIND);
    Due.due("shift(): -12 of unlike sorts ahead of -13", x.shift(1, -1, 2, 9, -1), KIND);
    Due.due("shift(): -13", x.shift(1, -1, 1, 9, -1), PLACE);
    Due.due("taken(): BAD ahead of -11", x.taken(3, 8), BAD);
    Due.due("taken(): BAD ahead of -12", x.taken(1, -1), BAD);
    Due.due("hand(): VOID ahead of -12", x.hand(8, 2, 0), Due.VOID);
    Due.due("hand(): VOID ahead of MISDEAL", x.hand(-1, 3, 0), Due.VOID);
  }

  private static void fill(CardsGone x, int shelf, int n, int from) {
    for (int i = 0; i < n; i++) x.put(shelf, i, from + i);
  }

  /** "n elements of a ROW from i on come to another one (or the same) from j on" */
  private static void shiftsOfAllSorts() {
    for (int sort = 0; sort <= 4; sort++) {
      CardsGone x = new CardsGone();
      x.lay(0, sort, 60);
      x.lay(1, sort, 60);
      fill(x, 0, 60, 1);
      Due.due("all 60", x.shift(0, 0, 1, 0, 60), 60);
      for (int i = 0; i < 60; i++) Due.due("element " + i, x.element(1, i), sort == 4 ? 1 : i + 1);
      for (int i = 0; i < 60; i += 7) Due.due("those they come from stay", x.element(0, i), sort == 4 ? 1 : i + 1);
      x.lay(1, sort, 3);
      Due.due("the last to the last", x.shift(0, 59, 1, 2, 1), 1);
      Due.due("the last", x.element(1, 2), sort == 4 ? 1 : 60);
      Due.due("the others stay", x.element(1, 1) + x.element(1, 0), 0);
      for (int other = 0; other <= 4; other++) {
        x.lay(2, other, 3);
        Due.due("sort " + sort + " to " + other, x.shift(1, 0, 2, 0, 1), other == sort ? 1 : KIND);
        Due.due("sort " + sort + " to " + other + ", none", x.shift(1, 0, 2, 0, 0), other == sort ? 0 : KIND);
      }
    }
  }

  /** "as they all were before" */
  private static void shiftsWithinOneRow() {
    int n = 7;
    for (int i = 0; i <= n; i++) {
      for (int j = 0; j <= n; j++) {
        CardsGone x = new CardsGone();
        x.lay(0, 2, n);
        for (int many = 0; many <= n + 1; many++) {
          fill(x, 0, n, 10);
          boolean fits = i + many <= n && j + many <= n;
          Due.due("shift(0, " + i + ", 0, " + j + ", " + many + ")", x.shift(0, i, 0, j, many), fits ? many : PLACE);
          for (int k = 0; k < n; k++) {
            int due = fits && k >= j && k < j + many ? 10 + i + k - j : 10 + k;
            Due.due("element " + k, x.element(0, k), due);
          }
        }
      }
    }
  }

  /** "(.. with n 0, too, if i or j is above how many there are)" */
  private static void shiftsOfNone() {
    CardsGone x = new CardsGone();
    x.lay(0, 0, 3);
    x.lay(1, 0, 0);
    int[][] told = {{0, 0, 1, 0, 0}, {0, 3, 1, 0, 0}, {0, 4, 1, 0, PLACE}, {0, 0, 1, 1, PLACE}, {1, 0, 0, 3, 0}, {1, 0, 0, 4, PLACE},
        {1, 1, 0, 0, PLACE}, {0, -1, 1, 0, PLACE}, {0, 0, 1, -1, PLACE}, {0, Integer.MIN_VALUE, 0, 0, PLACE},
        {0, 0, 0, Integer.MAX_VALUE, PLACE}, {1, 0, 1, 0, 0}};
    for (int[] t : told) {
      Due.due("shift(" + t[0] + ", " + t[1] + ", " + t[2] + ", " + t[3] + ", 0)", x.shift(t[0], t[1], t[2], t[3], 0), t[4]);
    }
    Due.due("one of a ROW of none", x.shift(1, 0, 0, 0, 1), PLACE);
    Due.due("one to a ROW of none", x.shift(0, 0, 1, 0, 1), PLACE);
  }

  /** "-13 (n below 0, too ..)"; sums that would wrap. */
  private static void shiftsOutOfPlace() {
    CardsGone x = new CardsGone();
    x.lay(0, 1, 5);
    x.lay(1, 1, 3);
    fill(x, 0, 5, 1);
    fill(x, 1, 3, 7);
    int most = Integer.MAX_VALUE, least = Integer.MIN_VALUE;
    int[][] out = {{0, 0, -1}, {0, 0, least}, {-1, 0, 1}, {0, -1, 1}, {5, 0, 1}, {0, 3, 1}, {3, 0, 3}, {0, 1, 3}, {0, 0, 4}, {0, 0, 6}, {most, 0, 1},
        {0, most, 1}, {1, 0, most}, {0, 1, most}, {most, most, most}, {most, 0, -1}, {least, 0, most}, {least, least, least}, {1, 1, -1}};
    for (int[] o : out) Due.due("shift(0, " + o[0] + ", 1, " + o[1] + ", " + o[2] + ")", x.shift(0, o[0], 1, o[1], o[2]), PLACE);
    for (int i = 0; i < 5; i++) Due.due("they stay", x.element(0, i), 1 + i);
    for (int i = 0; i < 3; i++) Due.due("they stay", x.element(1, i), 7 + i);
    Due.due("three at the end", x.shift(0, 2, 1, 0, 3), 3);
    for (int i = 0; i < 3; i++) Due.due("they came", x.element(1, i), 3 + i);
  }

  /** "What a SHELF holds, taken for a PLAYER of KIND k (0 .. 7), or under it: its KIND." */
  private static void takenByKind() {
    CardsGone x = ofAllKinds();
    String[] above = {"0", "10", "210", "3210", "4210", "50", "60", "750"};
    for (int kind = 0; kind < 8; kind++) {
      x.keep(3, kind);
      for (int k = 0; k < 8; k++) {
        Due.due(kind + " taken for " + k, x.taken(3, k), above[kind].indexOf('0' + k) >= 0 ? kind : KIND);
      }
      int[] bad = {-1, 8, Integer.MIN_VALUE, Integer.MAX_VALUE};
      for (int k : bad) Due.due(kind + " taken for " + k, x.taken(3, k), BAD);
    }
    for (int sort = 0; sort <= 4; sort++) {
      x.lay(4, sort, 60);
      for (int k = 0; k < 8; k++) Due.due("a ROW taken for " + k, x.taken(4, k), KIND);
    }
    for (int k = 0; k < 8; k++) Due.due("nothing taken for " + k, x.taken(5, k), NOTHING);
  }

  private static void takenOfOneThatPlays() {
    CardsGone x = new CardsGone();
    for (int i = 0; i < 10; i++) x.player(i == 9 ? 4 : 6, 50, 0);
    x.keep(0, 9);
    x.play(9, 20);
    x.purse(9, 0);
    Due.due("the tenth PLAYER", x.taken(0, 2), 4);
    Due.due("keep() of an eleventh", x.keep(0, 10), BAD);
  }

  /** Promise 40, each number at nothing, at one and full. */
  private static void countsAtTheirBounds() {
    CardsGone x = new CardsGone();
    for (int what = 0; what <= 5; what++) Due.due("count(" + what + ") at first", x.count(what), 0);
    int[] bad = {-1, 6, Integer.MIN_VALUE, Integer.MAX_VALUE};
    for (int what : bad) Due.due("count(" + what + ")", x.count(what), BAD);
    x.player(7, 5, 0);
    x.feed(1, 'v');
    x.step(1);
    x.word(-90);
    x.limit(3000);
    x.act(0, 0, 1);
    for (int what = 0; what <= 5; what++) Due.due("count(" + what + ") of one", x.count(what), 1);
    for (int i = 0; i < 12; i++) x.player(0, 5, 0);
    for (int i = 0; i < 40; i++) x.feed(3, 0);
    for (int i = 0; i < 14; i++) x.step(9);
    for (int i = 0; i < 10; i++) x.word(i);
    for (int i = 1; i < 45; i++) x.limit(i);
    x.act(0, 3, 1);
    int[] full = {10, 118, 12, 8, 40, 9};
    for (int what = 0; what <= 5; what++) Due.due("count(" + what + ") of all", x.count(what), full[what]);
    x.feed(2, 0);
    Due.due("THE TAPE is full", x.count(1), 120);
    x.undo();
    x.unstep();
    x.text(0);
    int[] then = {10, 0, 0, 8, 39, 9};
    for (int what = 0; what <= 5; what++) Due.due("count(" + what + ") then", x.count(what), then[what]);
  }
}
