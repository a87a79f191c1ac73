/** Promises 32 and 33: acts and their trace. */
public final class ActsTest {
  public static void main(String[] args) {
    CardsGone x = new CardsGone();
    Due.due("act() of no PLAYER", x.act(0, 0, 1), 0);
    for (int kind = 0; kind < 8; kind++) x.player(kind, 1, 0);
    answers(x);
    traces(x);
    none(x);
    wraps(x);
    numbers();
    Due.end();
  }

  private static void answers(CardsGone x) {
    // of KINDS 0 .. 7 (their numbers, too): plays, counts, bets, tells with 5
    int[][] due = {{5, 10, 5, 9}, {6, 15, 4, 15}, {7, 17, 21, 8}, {7, 17, 18, 11}, {9, 21, -3, 12}, {10, -20, 0, -19}, {12, 24, 3, 17},
        {12, -19, 2, -60}};
    for (int kind = 0; kind < 8; kind++) {
      for (int act = 0; act < 4; act++) Due.due("act(" + kind + ", " + act + ", 5)", x.act(kind, act, 5), due[kind][act]);
    }
  }

  private static void trace(CardsGone x, int player, int act, int... bodies) {
    x.act(player, act, 5);
    String name = "of act(" + player + ", " + act + ", 5)";
    Due.due("how many bodies " + name, x.count(5), bodies.length);
    for (int i = 0; i < bodies.length; i++) Due.due("body " + i + " " + name, x.trace(i), bodies[i]);
    Due.due("behind the last " + name, x.trace(bodies.length), CardsGone.BAD);
    Due.due("trace(-1)", x.trace(-1), CardsGone.BAD);
    Due.due("trace of the greatest", x.trace(Integer.MAX_VALUE), CardsGone.BAD);
  }

  private static void traces(CardsGone x) {
    trace(x, 0, 0, 1);
    trace(x, 0, 1, 10, 1);
    trace(x, 0, 2, 11);
    trace(x, 0, 3, 2, 10, 1, 11);
    trace(x, 1, 1, 20, 10, 1);
    trace(x, 1, 2, 11);
    trace(x, 2, 2, 30, 11);
    trace(x, 2, 3, 2, 20, 10, 1, 30, 11);
    trace(x, 3, 0, 40, 1);
    trace(x, 3, 3, 2, 20, 10, 40, 1, 30, 11);
    trace(x, 4, 2, 50, 30, 11, 1);
    trace(x, 4, 3, 2, 20, 10, 1, 50, 30, 11, 1);
    trace(x, 5, 1, 60, 10, 1);
    trace(x, 5, 3, 61, 2, 60, 10, 1, 11);
    trace(x, 6, 0, 70, 1);
    trace(x, 6, 3, 2, 10, 70, 1, 11);
    trace(x, 7, 1, 80, 60, 10, 1, 11);
    trace(x, 7, 3, 81, 61, 2, 80, 60, 10, 1, 11, 11);
  }

  private static void none(CardsGone x) {
    int[][] none = {{8, 0}, {-1, 0}, {0, 4}, {0, -1}, {Integer.MIN_VALUE, 0}, {0, Integer.MAX_VALUE}};
    for (int[] n : none) {
      x.act(7, 3, 5);
      Due.due("act(" + n[0] + ", " + n[1] + ")", x.act(n[0], n[1], 1), 0);
      Due.due("no TRACE then", x.count(5), 0);
      Due.due("no TRACE then", x.trace(0), CardsGone.BAD);
    }
  }

  private static void wraps(CardsGone x) {
    Due.due("counts wraps", x.act(0, 1, Integer.MAX_VALUE), -2);
    Due.due("plays wraps", x.act(1, 0, Integer.MAX_VALUE), Integer.MIN_VALUE);
    Due.due("BIG's minus wraps", x.act(5, 1, Integer.MIN_VALUE), -10);
    Due.due("bets wraps", x.act(2, 2, Integer.MAX_VALUE), (Integer.MAX_VALUE ^ 2) * 3);
  }

  private static void numbers() {
    CardsGone x = new CardsGone();
    for (int i = 0; i < 10; i++) x.player(0, 0, 0);
    for (int i = 0; i < 10; i++) {
      Due.due("plays of player " + i, x.act(i, 0, 100), 100 + i);
      Due.due("bets of player " + i, x.act(i, 2, 100), 100 ^ i);
    }
  }
}
