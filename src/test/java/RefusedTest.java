/** Each call that is refused, promise by promise: its answer, and that it leaves all as it was - as does each that only asks. */
public final class RefusedTest {
  private static final int BAD = CardsGone.BAD, FULL = CardsGone.FULL, STATE = CardsGone.STATE, VOID = CardsGone.VOID;
  private static final int MOST = Integer.MAX_VALUE, LEAST = Integer.MIN_VALUE;

  public static void main(String[] args) {
    shoeAndRules();
    tapeAndTexts();
    players();
    eleventhPlayer();
    playsThatAreNot();
    ledAndHands();
    rowsOfCards();
    byWhatIsLeft();
    deep();
    stepsAndPlaces();
    wordsThatAreNot();
    nothingToUndo();
    acts();
    shelves();
    elements();
    shifts();
    takenAndCounted();
    textsWithAFault();
    askedOnesChangeNothing();
    Due.end();
  }

  private static void shoeAndRules() {
    int[][] shoe = {{-1, 5}, {3, 5}, {LEAST, 5}, {MOST, 5}, {1, 0}, {1, 9}, {1, -1}, {1, LEAST}, {1, MOST}, {2, 9}, {2, 96}, {2, 0},
        {2, LEAST}, {2, MOST}};
    for (int[] a : shoe) Twins.refused("shoe(" + a[0] + ", " + a[1] + ")", VOID, x -> x.shoe(a[0], a[1]));
    int[] left = {-1, 14, LEAST, MOST};
    for (int what : left) Twins.refused("left(" + what + ")", VOID, x -> x.left(what));
    int[][] rule = {{-1, 0}, {4, 0}, {4, 150}, {LEAST, 1}, {MOST, 1}, {0, -1}, {0, 2}, {0, LEAST}, {0, MOST}, {1, 99}, {1, 201},
        {1, LEAST}, {1, MOST}, {2, -1}, {2, 2}, {2, LEAST}, {2, MOST}, {3, 14}, {3, 20}, {3, LEAST}, {3, MOST}};
    for (int[] a : rule) Twins.refused("rule(" + a[0] + ", " + a[1] + ")", BAD, x -> x.rule(a[0], a[1]));
  }

  private static void tapeAndTexts() {
    int[] feed = {0, 5, -1, LEAST, MOST};
    for (int n : feed) Twins.refused("feed(" + n + ", 49)", BAD, x -> x.feed(n, 49));
    for (int n : feed) Twins.refusedBehind(x -> tapeOf(x, 120), "feed(" + n + ", 49): BAD ahead of FULL", BAD, x -> x.feed(n, 49));
    int[][] full = {{120, 1}, {120, 4}, {119, 2}, {118, 3}, {117, 4}};
    for (int[] a : full) {
      Twins.refusedBehind(x -> tapeOf(x, a[0]), "feed(" + a[1] + ", 49) onto " + a[0], FULL, x -> x.feed(a[1], 49));
    }
    int[] uses = {-1, 4, LEAST, MOST};
    for (int use : uses) Twins.refused("text(" + use + ")", BAD, x -> x.text(use));
    for (int use : uses) Twins.refusedBehind(x -> tapeOf(x, 120), "text(" + use + "): THE TAPE stays", BAD, x -> x.text(use));
    int[] tags = {0, 11, -1, LEAST, MOST};
    for (int v : tags) Twins.refused("tag(" + v + ")", VOID, x -> x.tag(v));
  }

  /** A tape of 0+0+.. that a digit ends: a byte more or less is told by text(). */
  private static void tapeOf(CardsGone x, int bytes) {
    StringBuilder text = new StringBuilder();
    while (text.length() < bytes) text.append(text.length() % 2 == 0 ? '0' : '+');
    Due.feedByFours(x, text.toString());
  }

  private static void players() {
    int[][] player = {{-1, 0, 0}, {8, 0, 0}, {LEAST, 0, 0}, {MOST, 0, 0}, {0, -1, 0}, {0, 100000, 0}, {0, LEAST, 0}, {0, MOST, 0},
        {0, 0, -100}, {0, 0, 100}, {0, 0, LEAST}, {0, 0, MOST}};
    for (int[] a : player) {
      Twins.refused("player(" + a[0] + ", " + a[1] + ", " + a[2] + ")", BAD, x -> x.player(a[0], a[1], a[2]));
    }
    int[][] none = {{-1, 0}, {8, 0}, {9, 1}, {10, 0}, {LEAST, 0}, {MOST, 0}};
    for (int[] a : none) Twins.refused("ofPlayer(" + a[0] + ", " + a[1] + ")", VOID, x -> x.ofPlayer(a[0], a[1]));
    int[] whats = {-1, 6, LEAST, MOST};
    for (int what : whats) Twins.refused("ofPlayer(0, " + what + ")", VOID, x -> x.ofPlayer(0, what));
    int[][] purse = {{-1, 5}, {8, 5}, {10, 5}, {LEAST, 5}, {MOST, 5}, {0, -1}, {0, 100000}, {0, LEAST}, {0, MOST}};
    for (int[] a : purse) Twins.refused("purse(" + a[0] + ", " + a[1] + ")", BAD, x -> x.purse(a[0], a[1]));
    int[] limit = {0, 10000, -1, LEAST, MOST};
    for (int v : limit) Twins.refused("limit(" + v + ")", BAD, x -> x.limit(v));
  }

  private static void eleventhPlayer() {
    Twins.Made ten = x -> {
      for (int i = 0; i < 10; i++) x.player(i % 8, 10 + i, 0);
    };
    Twins.refusedBehind(ten, "an eleventh player", FULL, x -> x.player(0, 10, 0));
    Twins.refusedBehind(ten, "an eleventh of no KIND: BAD ahead of FULL", BAD, x -> x.player(8, 10, 0));
    Twins.refusedBehind(ten, "an eleventh with no such PURSE: BAD ahead of FULL", BAD, x -> x.player(0, 100000, 0));
    Twins.refusedBehind(ten, "an eleventh with no such CALL: BAD ahead of FULL", BAD, x -> x.player(0, 10, 100));
    CardsGone x = new CardsGone();
    for (int i = 0; i < 9; i++) x.player(0, 10, 0);
    Due.due("the tenth", x.player(0, 10, 0), 9);
    Due.due("ofPlayer(9, 1)", x.ofPlayer(9, 1), 1000);
    Due.due("ofPlayer(10, 1)", x.ofPlayer(10, 1), VOID);
  }

  private static void playsThatAreNot() {
    int[][] play = {{-1, 1}, {8, 1}, {10, 1}, {LEAST, 1}, {MOST, 1}, {0, 0}, {0, 61}, {0, -1}, {0, LEAST}, {0, MOST}};
    for (int[] a : play) Twins.refused("play(" + a[0] + ", " + a[1] + ")", VOID, x -> x.play(a[0], a[1]));
    Twins.refusedBehind(x -> x.player(0, 9, 0), "play(0, 61) ahead of the first HAND", VOID, x -> x.play(0, 61));
    Twins.refusedBehind(x -> x.player(0, 9, 0), "play(0, 0) ahead of the first HAND", VOID, x -> x.play(0, 0));
  }

  private static void ledAndHands() {
    int[][] led = {{-1, 1}, {-1, -1}, {-1, 10}, {-2, 0}, {5, 0}, {60, 0}, {LEAST, 0}, {MOST, 0}};
    for (int[] a : led) Twins.refused("led(" + a[0] + ", " + a[1] + ")", VOID, x -> x.led(a[0], a[1]));
    int[] whats = {-1, 9, 29, 49, 50, 60, LEAST, MOST};
    for (int what : whats) Twins.refused("led(0, " + what + ")", VOID, x -> x.led(0, what));
    Twins.refusedBehind(Twins::furnish, "led(), a card that is not there", VOID, x -> x.led(4, 10 + x.led(4, 2)));
    Twins.refusedBehind(Twins::furnish, "led(), a dealer's card that is not there", VOID, x -> x.led(4, 30 + x.led(4, 3)));
    int[][] hand = {{-1, 0}, {8, 0}, {10, 0}, {LEAST, 0}, {MOST, 0}, {0, -1}, {0, 6}, {0, LEAST}, {0, MOST}};
    for (int[] a : hand) Twins.refused("hand(" + a[0] + ", " + a[1] + ", 0)", VOID, x -> x.hand(a[0], a[1], 0));
    for (int[] a : hand) Twins.refused("hand(" + a[0] + ", " + a[1] + ", -1)", VOID, x -> x.hand(a[0], a[1], -1));
  }

  private static void rowsOfCards() {
    for (int shelf = 1; shelf <= 5; shelf++) {
      int at = shelf;
      Twins.refusedBehind(Twins::furnish, "hand(0, " + at + ", 0): no ROW of bytes", -12, x -> x.hand(0, at, 0));
    }
    int[] places = {-1, 8, 9, 60, LEAST, MOST, 5};
    for (int i : places) Twins.refusedBehind(Twins::furnish, "hand(0, 0, " + i + "): MISDEAL", -999999, x -> x.hand(0, 0, i));
    Twins.Made empty = x -> {
      Twins.furnish(x);
      x.keep(2, -1);
    };
    Twins.refusedBehind(empty, "hand() of a SHELF that holds nothing", -999999, x -> x.hand(0, 2, 0));
  }

  private static void byWhatIsLeft() {
    int[][] ends = {{0, 17}, {11, 17}, {-1, 17}, {LEAST, 17}, {MOST, 17}, {1, 14}, {1, 24}, {10, 0}, {10, LEAST}, {10, MOST}};
    for (int[] a : ends) Twins.refused("ends(" + a[0] + ", " + a[1] + ")", BAD, x -> x.ends(a[0], a[1]));
    int[][] lines = {{3, 5}, {22, 5}, {0, 5}, {-4, 5}, {1000, 5}, {1011, 5}, {1022, 5}, {LEAST, 5}, {MOST, 5}, {16, 0}, {16, 11}, {16, -1},
        {16, LEAST}, {16, MOST}, {1012, 0}, {1021, 11}};
    for (int[] a : lines) {
      String line = "(" + a[0] + ", " + a[1];
      for (int what = 0; what <= 3; what++) {
        int w = what;
        Twins.refused("worth" + line + ", " + w + ")", VOID, x -> x.worth(a[0], a[1], w));
        if (w < 3) Twins.refused("cost" + line + ", " + w + ")", VOID, x -> x.cost(a[0], a[1], w));
        if (w < 2) Twins.refused("row" + line + ", " + w + ")", VOID, x -> x.row(a[0], a[1], w));
      }
    }
    int[] none = {-1, 4, LEAST, MOST};
    for (int what : none) {
      Twins.refused("worth(16, 5, " + what + ")", VOID, x -> x.worth(16, 5, what));
      Twins.refused("cost(16, 5, " + what + ")", VOID, x -> x.cost(16, 5, what));
      Twins.refused("row(16, 5, " + what + ")", VOID, x -> x.row(16, 5, what));
      Twins.refused("ruled(" + what + ")", VOID, x -> x.ruled(what));
    }
    Twins.refused("cost(16, 5, 3)", VOID, x -> x.cost(16, 5, 3));
    Twins.refused("row(16, 5, 2)", VOID, x -> x.row(16, 5, 2));
    Twins.refusedBehind(x -> x.rule(2, 0), "COST of a DOUBLE without RULE 2", VOID, x -> x.cost(11, 6, 2));
    Twins.refusedBehind(x -> { }, "says() ahead of the first HAND", VOID, x -> x.says());
    Twins.refusedBehind(x -> {
      Twins.furnish(x);
      x.purse(0, 0);
      x.play(0, 9);
    }, "says() as the latest call had no HANDS", VOID, x -> x.says());
  }

  private static void deep() {
    int[][] deep = {{-1, 1, 0}, {8, 1, 0}, {10, 1, 0}, {LEAST, 1, 0}, {MOST, 1, 0}, {0, 0, 0}, {0, 41, 0}, {0, -1, 0}, {0, LEAST, 0},
        {0, MOST, 0}, {0, 1, -1}, {0, 1, 2}, {0, 1, LEAST}, {0, 1, MOST}};
    for (int[] a : deep) {
      Twins.refused("deep(" + a[0] + ", " + a[1] + ", 7, " + a[2] + ")", VOID, x -> x.deep(a[0], a[1], 7, a[2]));
    }
  }

  private static void stepsAndPlaces() {
    int[] step = {0, 10, 60, -1, LEAST, MOST};
    for (int v : step) Twins.refused("step(" + v + ")", BAD, x -> x.step(v));
    Twins.Made twelve = x -> {
      for (int i = 1; i <= 12; i++) x.step(i % 9 + 1);
    };
    Twins.refusedBehind(twelve, "a thirteenth step", FULL, x -> x.step(59));
    for (int v : step) Twins.refusedBehind(twelve, "step(" + v + "): BAD ahead of FULL", BAD, x -> x.step(v));
    int[][] where = {{1, 0}, {0, 0}, {-1, 0}, {417, 0}, {LEAST, 0}, {MOST, 0}, {2, -1}, {2, 2}, {416, 416}, {52, -1}, {416, -1}, {52, 52}, {52, LEAST}, {52, MOST}};
    for (int[] a : where) Twins.refused("where(" + a[0] + ", " + a[1] + ")", BAD, x -> x.where(a[0], a[1]));
    int[][] together = {{1, 0}, {0, 0}, {-1, 0}, {417, 0}, {LEAST, 0}, {MOST, 0}, {2, 2}, {2, 2002}, {2, 1000}, {52, 1000}, {52, 51050},
        {52, 52}, {416, 416}, {416, 415999}, {52, -1}, {52, -1000}, {52, LEAST}, {52, MOST}};
    for (int[] a : together) Twins.refused("together(" + a[0] + ", " + a[1] + ")", BAD, x -> x.together(a[0], a[1]));
  }

  private static void wordsThatAreNot() {
    int[] word = {-100, 100, LEAST, MOST};
    for (int v : word) Twins.refused("word(" + v + ")", BAD, x -> x.word(v));
    int[] lower = {2, 1, 0, -2, -3, -99};
    for (int v : lower) Twins.refusedBehind(Twins::furnish, "word(" + v + ") behind 2", BAD, x -> x.word(v));
    Twins.Made eight = x -> {
      for (int i = 0; i < 8; i++) x.word(i * 2);
    };
    Twins.refusedBehind(eight, "a ninth bound", FULL, x -> x.word(15));
    Twins.refusedBehind(eight, "a ninth, the greatest", FULL, x -> x.word(99));
    Twins.refusedBehind(eight, "a ninth like the eighth: BAD ahead of FULL", BAD, x -> x.word(14));
    Twins.refusedBehind(eight, "a ninth of 100: BAD ahead of FULL", BAD, x -> x.word(100));
    int[] heard = {-1, 9, LEAST, MOST};
    for (int v : heard) Twins.refused("heard(" + v + ")", BAD, x -> x.heard(v));
    for (int v : heard) Twins.refusedBehind(eight, "heard(" + v + ") with eight bounds", BAD, x -> x.heard(v));
  }

  private static void nothingToUndo() {
    Twins.refusedBehind(x -> { }, "undo() of a new object", STATE, x -> x.undo());
    Twins.refusedBehind(x -> { }, "redo() of a new object", STATE, x -> x.redo());
    Twins.refusedBehind(x -> x.limit(5), "redo() with nothing UNDONE", STATE, x -> x.redo());
    Twins.refusedBehind(x -> {
      x.limit(5);
      x.undo();
    }, "undo() with all UNDONE", STATE, x -> x.undo());
    Twins.refusedBehind(x -> {
      x.limit(5);
      x.undo();
      x.redo();
    }, "redo() with all DONE AGAIN", STATE, x -> x.redo());
    Twins.refusedBehind(x -> {
      x.limit(5);
      x.undo();
      x.rule(0, 1);
    }, "redo() as another came behind", STATE, x -> x.redo());
  }

  /** act() that is none leaves no TRACE, and all else as it was. */
  private static void acts() {
    int[][] act = {{-1, 0}, {8, 0}, {10, 0}, {LEAST, 0}, {MOST, 0}, {0, -1}, {0, 4}, {0, LEAST}, {0, MOST}};
    for (int[] a : act) {
      String call = "act(" + a[0] + ", " + a[1] + ", 5)";
      CardsGone x = new CardsGone(), other = new CardsGone();
      Twins.furnish(x);
      Twins.furnish(other);
      Due.due("bodies ran ahead of it", x.count(5), 9);
      Due.due("count(5) of the other one", other.count(5), 9);
      Due.due(call, x.act(a[0], a[1], 5), 0);
      other.act(9, 9, 0);
      Due.due("count(5) behind " + call, x.count(5), 0);
      Due.due("trace(0) behind " + call, x.trace(0), BAD);
      Due.due("count(5) of the other one", other.count(5), 0);
      Due.due("trace(0) of the other one", other.trace(0), BAD);
      Twins.sameEverAfter(call, x, other);
      Twins.refusedBehind(y -> { }, call + " of a new object", 0, y -> y.act(a[0], a[1], 5));
    }
    int[] trace = {-1, 9, 10, 24, LEAST, MOST};
    for (int i : trace) Twins.refused("trace(" + i + ")", BAD, x -> x.trace(i));
    Twins.refusedBehind(x -> { }, "trace(0) ahead of the first act", BAD, x -> x.trace(0));
  }

  private static void shelves() {
    int[][] keep = {{-1, -1}, {6, -1}, {LEAST, -1}, {MOST, -1}, {0, -2}, {0, 8}, {0, 10}, {0, LEAST}, {0, MOST}, {5, 8}, {6, 0}};
    for (int[] a : keep) Twins.refused("keep(" + a[0] + ", " + a[1] + ")", BAD, x -> x.keep(a[0], a[1]));
    Twins.refusedBehind(x -> { }, "keep(0, 0) with no PLAYER", BAD, x -> x.keep(0, 0));
    int[][] lay = {{-1, 0, 1}, {6, 0, 1}, {LEAST, 0, 1}, {MOST, 0, 1}, {0, -1, 1}, {0, 5, 1}, {0, LEAST, 1}, {0, MOST, 1}, {0, 0, 61},
        {0, 4, 61}, {0, 0, MOST}, {6, 0, -1}, {0, 5, -1}, {0, -1, LEAST}};
    for (int[] a : lay) Twins.refused("lay(" + a[0] + ", " + a[1] + ", " + a[2] + ")", BAD, x -> x.lay(a[0], a[1], a[2]));
    int[] sizes = {-1, -60, LEAST};
    for (int n : sizes) for (int shelf = 0; shelf < 6; shelf++) {
      int at = shelf;
      Twins.refused("lay(" + at + ", 0, " + n + ")", -14, x -> x.lay(at, 0, n));
    }
  }

  private static void elements() {
    int[] shelf = {-1, 6, LEAST, MOST};
    for (int s : shelf) {
      Twins.refused("put(" + s + ", 0, 1)", BAD, x -> x.put(s, 0, 1));
      Twins.refused("put(" + s + ", -1, 1): BAD ahead of the rest", BAD, x -> x.put(s, -1, 1));
      Twins.refused("element(" + s + ", 0)", Long.MIN_VALUE, x -> x.element(s, 0));
    }
    int[] places = {0, -1, 2, 60, LEAST, MOST};
    for (int i : places) {
      Twins.refusedBehind(x -> { }, "put(0, " + i + ", 1) on nothing", -11, x -> x.put(0, i, 1));
      Twins.refusedBehind(x -> { }, "element(0, " + i + ") of nothing", Long.MIN_VALUE, x -> x.element(0, i));
      Twins.refusedBehind(Twins::furnish, "put(5, " + i + ", 1) on a PLAYER", -12, x -> x.put(5, i, 1));
      Twins.refusedBehind(Twins::furnish, "element(5, " + i + ") of a PLAYER", Long.MIN_VALUE, x -> x.element(5, i));
      if (i == 0) continue;
      for (int sort = 1; sort <= 4; sort++) {
        int s = sort;
        Twins.refusedBehind(Twins::furnish, "put(" + s + ", " + i + ", 1)", -13, x -> x.put(s, i, 1));
        Twins.refusedBehind(Twins::furnish, "element(" + s + ", " + i + ")", Long.MIN_VALUE, x -> x.element(s, i));
      }
    }
    Twins.refusedBehind(x -> x.lay(0, 3, 0), "put() on a ROW of none", -13, x -> x.put(0, 0, 1));
    Twins.refusedBehind(x -> x.lay(0, 3, 0), "element() of a ROW of none", Long.MIN_VALUE, x -> x.element(0, 0));
  }

  /** Shelves 0 (8 bytes), 1 (2 shorts), 2 (3 bytes), 4 nothing, 5 a PLAYER. */
  private static void somePlaces(CardsGone x) {
    Twins.furnish(x);
    x.lay(2, 0, 3);
    x.put(2, 0, 7);
    x.keep(4, -1);
  }

  private static void shifts() {
    int[][] refused = {
        {-1, 0, 0, 0, 1, BAD}, {6, 0, 0, 0, 1, BAD}, {0, 0, -1, 0, 1, BAD}, {0, 0, 6, 0, 1, BAD}, {LEAST, 0, MOST, 0, 1, BAD},
        {4, 0, 6, 0, 1, BAD}, {5, 0, -1, 0, -1, BAD}, {6, -1, 4, -1, -1, BAD},
        {4, 0, 0, 0, 1, -11}, {0, 0, 4, 0, 1, -11}, {4, 0, 4, 0, 1, -11}, {4, -1, 5, -1, -1, -11}, {5, 0, 4, 0, 1, -11}, {4, 0, 4, 0, 0, -11},
        {5, 0, 0, 0, 1, -12}, {0, 0, 5, 0, 1, -12}, {5, 0, 5, 0, 0, -12}, {0, 0, 1, 0, 1, -12}, {1, 0, 0, 0, 1, -12}, {0, -1, 1, 9, -1, -12},
        {0, 0, 1, 0, 0, -12},
        {0, 0, 2, 0, -1, -13}, {0, 0, 2, 0, LEAST, -13}, {0, -1, 2, 0, 1, -13}, {0, 0, 2, -1, 1, -13}, {0, -1, 2, 0, 0, -13},
        {0, 0, 2, -1, 0, -13}, {0, LEAST, 2, 0, 0, -13}, {0, 0, 2, LEAST, 0, -13}, {0, 0, 2, 0, 4, -13}, {0, 6, 2, 0, 3, -13},
        {0, 0, 2, 1, 3, -13}, {0, 8, 2, 0, 1, -13}, {0, 0, 2, 3, 1, -13}, {0, 9, 2, 0, 0, -13}, {0, 0, 2, 4, 0, -13}, {0, 0, 0, 1, 8, -13},
        {0, 1, 0, 0, 8, -13}, {0, 0, 0, 0, 9, -13}, {0, MOST, 2, 0, 0, -13}, {0, 0, 2, MOST, 0, -13}, {0, 1, 0, 1, MOST, -13},
        {0, MOST, 0, MOST, MOST, -13}, {1, 2, 1, 0, 1, -13}, {1, 3, 1, 0, 0, -13}};
    for (int[] a : refused) {
      Twins.refusedBehind(RefusedTest::somePlaces, "shift(" + a[0] + ", " + a[1] + ", " + a[2] + ", " + a[3] + ", " + a[4] + ")", a[5],
          x -> x.shift(a[0], a[1], a[2], a[3], a[4]));
    }
    int[][] none = {{0, 8, 2, 3, 0}, {0, 0, 2, 0, 0}, {0, 8, 0, 0, 0}, {0, 0, 0, 8, 0}, {1, 2, 1, 2, 0}};
    for (int[] a : none) {
      Twins.refusedBehind(RefusedTest::somePlaces, "shift of none, " + a[1] + " and " + a[3], 0, x -> x.shift(a[0], a[1], a[2], a[3], 0));
    }
  }

  private static void takenAndCounted() {
    int[][] taken = {{-1, 0}, {6, 0}, {LEAST, 0}, {MOST, 0}, {5, -1}, {5, 8}, {5, LEAST}, {5, MOST}, {0, -1}, {0, 8}, {6, 8}};
    for (int[] a : taken) Twins.refused("taken(" + a[0] + ", " + a[1] + ")", BAD, x -> x.taken(a[0], a[1]));
    for (int k = 0; k < 8; k++) {
      int kind = k;
      Twins.refusedBehind(x -> { }, "taken(0, " + k + ") of nothing", -11, x -> x.taken(0, kind));
      Twins.refusedBehind(Twins::furnish, "taken(0, " + k + ") of a ROW", -12, x -> x.taken(0, kind));
      if (k > 3) Twins.refusedBehind(Twins::furnish, "taken(5, " + k + ") of a SIDE", -12, x -> x.taken(5, kind));
    }
    int[] count = {-1, 6, LEAST, MOST};
    for (int what : count) Twins.refused("count(" + what + ")", BAD, x -> x.count(what));
  }

  /** "-100 less its FAULT; THE TAPE is empty then": nothing else differs, whichever USE it was for. */
  private static void textsWithAFault() {
    for (int use = 0; use < 4; use++) {
      CardsGone x = new CardsGone(), other = new CardsGone();
      Twins.furnish(x);
      Twins.furnish(other);
      x.feed(1, '+');
      other.feed(1, '+');
      Due.due("text(" + use + ") of v-3+", x.text(use), -104);
      Due.due("text() of v-3+ for another USE", other.text((use + 1) % 4), -104);
      Due.due("THE TAPE is empty", x.count(1), 0);
      Twins.sameEverAfter("a FAULT for " + use, x, other);
    }
  }

  private static void asks(String call, Due.Ask ask) {
    CardsGone third = new CardsGone();
    Twins.furnish(third);
    Twins.refusedBehind(Twins::furnish, call, ask.of(third), ask);
  }

  private static void askedOnesChangeNothing() {
    asks("left(0)", x -> x.left(0));
    asks("left(13)", x -> x.left(13));
    asks("tag(10)", x -> x.tag(10));
    asks("ofPlayer(2, 4)", x -> x.ofPlayer(2, 4));
    asks("led(0, 8)", x -> x.led(0, 8));
    for (int kind = 0; kind < 8; kind++) {
      int who = kind;
      asks("hand(" + kind + ", 0, 0)", x -> x.hand(who, 0, 0));
    }
    asks("ends(10, 23)", x -> x.ends(10, 23));
    for (int what = 0; what < 4; what++) {
      int w = what;
      asks("worth(1018, 9, " + what + ")", x -> x.worth(1018, 9, w));
      asks("ruled(" + what + ")", x -> x.ruled(w));
    }
    asks("cost(11, 6, 1)", x -> x.cost(11, 6, 1));
    asks("whole()", x -> x.whole());
    asks("row(16, 10, 1)", x -> x.row(16, 10, 1));
    asks("says()", x -> x.says());
    asks("where(52, 7)", x -> x.where(52, 7));
    asks("together(52, 3019)", x -> x.together(52, 3019));
    asks("heard(2)", x -> x.heard(2));
    asks("hides()", x -> x.hides());
    asks("trace(3)", x -> x.trace(3));
    asks("element(0, 1)", x -> x.element(0, 1));
    asks("shift() of one onto itself", x -> x.shift(0, 3, 0, 3, 1));
    asks("taken(5, 2)", x -> x.taken(5, 2));
    asks("count(4)", x -> x.count(4));
    asks("rule(0, 1) told the same", x -> x.rule(0, 1));
    asks("limit(300) told the same", x -> x.limit(300));
    asks("purse(1, 501) told the same", x -> x.purse(1, 501));
    asks("keep(5, 3) told the same", x -> x.keep(5, 3));
  }
}
