import java.util.ArrayList;
import java.util.List;

/** Two tables of one history: one of them is refused a call, and both have to answer alike to all that follows. */
final class Twins {
  private Twins() {}

  /** What is told to a new object ahead of the call. */
  interface Made {
    void on(CardsGone x);
  }

  /** The call is refused so by a new object and by a furnished one, and changes nothing of either. */
  static void refused(String call, long due, Due.Ask ask) {
    refusedBehind(x -> { }, call + " of a new object", due, ask);
    refusedBehind(Twins::furnish, call, due, ask);
  }

  static void refusedBehind(Made made, String call, long due, Due.Ask ask) {
    CardsGone x = new CardsGone(), untouched = new CardsGone();
    made.on(x);
    made.on(untouched);
    Due.due(call, ask.of(x), due);
    sameEverAfter(call, x, untouched);
  }

  static void sameEverAfter(String call, CardsGone x, CardsGone untouched) {
    long[] then = probes(x), as = probes(untouched);
    int differ = -1;
    for (int i = 0; i < as.length && differ < 0; i++) if (then[i] != as[i]) differ = i;
    Due.due(call + " leaves all as it was, probe", differ, -1);
  }

  /** Something of everything, with a change that may be UNDONE and one that may be DONE AGAIN: some 90 calls. */
  static void furnish(CardsGone x) {
    x.shoe(1, 1);
    x.shoe(0, 12345);
    x.shoe(2, 90);
    for (int kind = 0; kind < 8; kind++) x.player(kind, 500 + kind, kind - 3);
    Due.textByFours(x, 0, "p<16|d=10&p<17");
    Due.textByFours(x, 1, "v=1|v=10?-1;v<7");
    Due.textByFours(x, 2, "t>0?t*9;2");
    Due.textByFours(x, 3, "w*3+b+l");
    x.play(2, 5);
    x.rule(0, 1);
    x.rule(1, 140);
    x.limit(300);
    x.purse(1, 77);
    x.undo();
    x.step(3);
    x.step(20);
    x.word(-2);
    x.word(0);
    x.word(2);
    x.act(7, 3, 5);
    x.lay(0, 0, 8);
    int[] cards = {10, 9, 6, 10, 5, 3, 2, 10};
    for (int i = 0; i < 8; i++) x.put(0, i, cards[i]);
    for (int sort = 1; sort < 5; sort++) {
      x.lay(sort, sort, 2);
      x.put(sort, 1, 1000003L * 1000003L);
    }
    x.keep(5, 3);
    Due.feedByFours(x, "v-3");
  }

  /** Some 350 calls; those behind the first that change something show what no call tells. */
  private static long[] probes(CardsGone x) {
    List<Long> told = new ArrayList<>();
    tellAll(x, told);
    told.add((long) x.text(1));
    for (int v = 1; v <= 10; v += 3) told.add((long) x.tag(v));
    for (int i = 0; i < 2; i++) told.add((long) x.redo());
    told.add((long) x.ofPlayer(1, 1));
    for (int i = 0; i < 5; i++) told.add((long) x.undo());
    told.add((long) x.rule(0, 0));
    told.add((long) x.rule(1, 150));
    told.add((long) x.limit(200));
    told.add((long) x.word(5));
    told.add((long) x.heard(3));
    told.add((long) x.player(2, 1000, 0));
    told.add((long) x.play(7, 4));
    tellHands(x, told, 4);
    told.add((long) x.deep(2, 3, 5, 1));
    told.add((long) x.unstep());
    told.add((long) x.where(52, 7));
    told.add((long) x.shoe(0, 3));
    told.add((long) x.shoe(2, 50));
    told.add((long) x.shoe(1, 2));
    told.add((long) x.play(0, 2));
    tellHands(x, told, 2);
    long[] all = new long[told.size()];
    for (int i = 0; i < all.length; i++) all[i] = told.get(i);
    return all;
  }

  private static void tellAll(CardsGone x, List<Long> told) {
    for (int what = 0; what <= 13; what++) told.add((long) x.left(what));
    for (int v = 1; v <= 10; v++) told.add((long) x.tag(v));
    for (int what = 0; what <= 5; what++) told.add((long) x.count(what));
    for (int i = 0; i < 10; i++) told.add((long) x.trace(i));
    for (int player = 0; player < 8; player++) {
      for (int what = 1; what <= 5; what += what == 1 ? 2 : 1) told.add((long) x.ofPlayer(player, what));
    }
    tellHands(x, told, 5);
    for (int i = 0; i < 8; i++) told.add(x.element(0, i));
    for (int shelf = 1; shelf <= 4; shelf++) for (int i = 0; i < 3; i++) told.add(x.element(shelf, i));
    for (int k = 0; k <= 3; k++) told.add((long) x.taken(5, k));
    for (int i = 0; i < 6; i++) told.add((long) x.where(7, i));
    for (int word = 0; word <= 4; word++) told.add((long) x.heard(word));
    told.add((long) x.hides());
    told.add((long) x.says());
    told.add((long) x.worth(16, 10, 0));
    told.add((long) x.worth(11, 6, 3));
    told.add((long) x.whole());
    told.add((long) x.hand(2, 0, 0));
  }

  private static void tellHands(CardsGone x, List<Long> told, int many) {
    told.add((long) x.led(-1, 0));
    int[] whats = {0, 1, 2, 3, 4, 5, 6, 7, 8, 10, 12, 30, 31, 32};
    for (int h = 0; h < many; h++) for (int what : whats) told.add((long) x.led(h, what));
  }
}
