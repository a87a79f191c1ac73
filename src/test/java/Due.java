import java.util.ArrayList;
import java.util.List;

/** What the tests share: answers against those that are due, texts by THE TAPE, THE SHOE worked out apart. */
final class Due {
  static final int VOID = CardsGone.VOID;
  private static int wrong = 0, asked = 0;

  private Due() {}

  static void due(String call, long got, long want) {
    asked++;
    if (got == want) return;
    wrong++;
    System.out.println(call + " answered " + got + ", due is " + want);
  }

  static void isSo(String what, boolean so) {
    due(what, so ? 1 : 0, 1);
  }

  /** To be the last call of each test's main. */
  static void end() {
    System.out.println(wrong == 0 ? asked + " answers are as due" : wrong + " of " + asked + " answers are not");
    if (wrong != 0) System.exit(1);
  }

  static void feed(CardsGone x, String text) {
    for (int i = 0; i < text.length(); i++) x.feed(1, text.charAt(i));
  }

  /** The answer of text() to a TEXT. */
  static int text(CardsGone x, int use, String text) {
    feed(x, text);
    return x.text(use);
  }

  static void row(CardsGone x, int shelf, int... values) {
    x.lay(shelf, 0, values.length);
    for (int i = 0; i < values.length; i++) x.put(shelf, i, values[i]);
  }

  /** z behind a SHUFFLE of so many packs that began with z. */
  static int zBehind(int packs, int z) {
    for (int i = packs * 52 - 1; i >= 1; i--) z = z * 1103515245 + 12345;
    return z;
  }

  static List<Integer> shuffled(int packs, int z) {
    List<Integer> cards = new ArrayList<>();
    for (int v = 1; v <= 10; v++) for (int i = 0; i < packs * (v == 10 ? 16 : 4); i++) cards.add(v);
    for (int i = cards.size() - 1; i >= 1; i--) {
      z = z * 1103515245 + 12345;
      java.util.Collections.swap(cards, i, (z >>> 8) % (i + 1));
    }
    return cards;
  }
}
