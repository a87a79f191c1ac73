import java.util.ArrayList;
import java.util.Arrays;
import java.util.HashMap;
import java.util.List;
import java.util.Map;

/** What the tests share: answers against those that are due, texts by THE TAPE, THE SHOE worked out apart. */
final class Due {
  static final int VOID = CardsGone.VOID;
  private static int wrong = 0, asked = 0;
  private static final Map<String, Integer> SEEDS = new HashMap<>();

  private Due() {}

  static void due(String call, long got, long want) {
    asked++;
    if (got == want) return;
    wrong++;
    System.out.println(call + " answered " + got + ", due is " + want);
  }

  static void isSo(String what, boolean so) {
    due(what, so ? 1 : 0, 1);
  }

  /** To be the last call of each test's main. */
  static void end() {
    System.out.println(wrong == 0 ? asked + " answers are as due" : wrong + " of " + asked + " answers are not");
    if (wrong != 0) System.exit(1);
  }

  static void feed(CardsGone x, String text) {
    for (int i = 0; i < text.length(); i++) x.feed(1, text.charAt(i));
  }

  /** The answer of text() to a TEXT. */
  static int text(CardsGone x, int use, String text) {
    feed(x, text);
    return x.text(use);
  }

  /** The same with four bytes a call, for tests that count their calls. */
  static int textByFours(CardsGone x, int use, String text) {
    feedByFours(x, text);
    return x.text(use);
  }

  static void feedByFours(CardsGone x, String text) {
    for (int i = 0; i < text.length(); i += 4) {
      int n = Math.min(4, text.length() - i), v = 0;
      for (int k = 0; k < n; k++) v |= text.charAt(i + k) << 8 * k;
      x.feed(n, v);
    }
  }

  static void row(CardsGone x, int shelf, int... values) {
    x.lay(shelf, 0, values.length);
    for (int i = 0; i < values.length; i++) x.put(shelf, i, values[i]);
  }

  /** z behind a SHUFFLE of so many packs that began with z. */
  static int zBehind(int packs, int z) {
    for (int i = packs * 52 - 1; i >= 1; i--) z = z * 1103515245 + 12345;
    return z;
  }

  static List<Integer> shuffled(int packs, int z) {
    List<Integer> cards = new ArrayList<>();
    for (int v = 1; v <= 10; v++) for (int i = 0; i < packs * (v == 10 ? 16 : 4); i++) cards.add(v);
    for (int i = cards.size() - 1; i >= 1; i--) {
      z = z * 1103515245 + 12345;
      java.util.Collections.swap(cards, i, (z >>> 8) % (i + 1));
    }
    return cards;
  }

  /** A SEED by which one pack, SHUFFLED, has such VALUES from place 1 on (0: any). */
  static int seedFor(int... values) {
    return SEEDS.computeIfAbsent(Arrays.toString(values), name -> soughtSeed(values));
  }

  private static int soughtSeed(int[] values) {
    int[] cards = new int[52];
    for (int seed = 0; seed < 60000000; seed++) {
      shuffleOne(cards, seed);
      boolean so = true;
      for (int i = 0; i < values.length && so; i++) so = values[i] == 0 || cards[1 + i] == values[i];
      if (so) return seed;
    }
    throw new IllegalStateException("no SEED for such VALUES");
  }

  private static void shuffleOne(int[] cards, int z) {
    for (int i = 0; i < 52; i++) cards[i] = i < 36 ? i / 4 + 1 : 10;
    for (int i = 51; i >= 1; i--) {
      z = z * 1103515245 + 12345;
      int j = (z >>> 8) % (i + 1), card = cards[i];
      cards[i] = cards[j];
      cards[j] = card;
    }
  }

  /** The next HAND of that table is of one pack and gets such cards: the player, the dealer, the player, the hidden one, .. */
  static void deal(CardsGone x, int... values) {
    x.shoe(1, 1);
    x.shoe(0, seedFor(values));
  }

  /** What an object answers to one call. */
  interface Ask {
    long of(CardsGone x);
  }
}
