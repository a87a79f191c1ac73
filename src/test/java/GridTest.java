import java.lang.reflect.Method;
import java.util.Arrays;
import java.util.LinkedHashMap;
import java.util.Map;

/** Each call with the values at, beside and far beyond the bounds of its arguments, all of them with one another, against the Model. */
public final class GridTest {
  private static final int MOST = Integer.MAX_VALUE, LEAST = Integer.MIN_VALUE, CALLS = 200;
  private static final int[] WHO = {LEAST, -1, 0, 7, 8, 9, 10, MOST}, SHELF = {LEAST, -1, 0, 1, 5, 6, MOST}, D = {LEAST, 0, 1, 10, 11, MOST};
  private static final int[] TOTAL = {LEAST, 3, 4, 11, 12, 21, 22, 1000, 1011, 1012, 1021, 1022, MOST};
  private static final int[] PLACE = {LEAST, -1, 0, 1, 2, 3, 8, 60, MOST};

  private CardsGone x;
  private Model model;
  private int calls = CALLS;

  public static void main(String[] args) throws Exception {
    GridTest grid = new GridTest();
    for (Map.Entry<String, int[][]> entry : values().entrySet()) grid.allOf(entry.getKey(), entry.getValue());
    Due.end();
  }

  private static Map<String, int[][]> values() {
    Map<String, int[][]> of = new LinkedHashMap<>();
    of.put("shoe", new int[][] {{LEAST, -1, 0, 1, 2, 3, MOST}, {LEAST, -1, 0, 1, 8, 9, 10, 95, 96, MOST}});
    of.put("left", new int[][] {{LEAST, -1, 0, 1, 10, 11, 12, 13, 14, MOST}});
    of.put("rule", new int[][] {{LEAST, -1, 0, 1, 2, 3, 4, MOST}, {LEAST, -1, 0, 1, 2, 14, 15, 19, 20, 99, 100, 200, 201, MOST}});
    of.put("feed", new int[][] {{LEAST, -1, 0, 1, 4, 5, MOST}, {LEAST, -1, 0, '1', MOST}});
    of.put("text", new int[][] {{LEAST, -1, 0, 3, 4, MOST}});
    of.put("tag", new int[][] {{LEAST, -1, 0, 1, 10, 11, MOST}});
    of.put("player", new int[][] {{LEAST, -1, 0, 7, 8, MOST}, {LEAST, -1, 0, 99999, 100000, MOST}, {LEAST, -100, -99, 0, 99, 100, MOST}});
    of.put("ofPlayer", new int[][] {WHO, {LEAST, -1, 0, 1, 5, 6, MOST}});
    of.put("purse", new int[][] {WHO, {LEAST, -1, 0, 1, 99999, 100000, MOST}});
    of.put("limit", new int[][] {{LEAST, -1, 0, 1, 9999, 10000, MOST}});
    of.put("play", new int[][] {WHO, {LEAST, -1, 0, 1, 60, 61, MOST}});
    of.put("led", new int[][] {{LEAST, -2, -1, 0, 4, 5, 59, 60, MOST}, {LEAST, -1, 0, 8, 9, 10, 11, 12, 29, 30, 31, 32, 49, 50, MOST}});
    of.put("hand", new int[][] {WHO, SHELF, PLACE});
    of.put("ends", new int[][] {D, {LEAST, 14, 15, 17, 21, 22, 23, 24, MOST}});
    of.put("worth", new int[][] {TOTAL, D, {LEAST, -1, 0, 1, 2, 3, 4, MOST}});
    of.put("cost", new int[][] {TOTAL, D, {LEAST, -1, 0, 1, 2, 3, MOST}});
    of.put("whole", new int[][] {});
    of.put("row", new int[][] {TOTAL, D, {LEAST, -1, 0, 1, 2, MOST}});
    of.put("ruled", new int[][] {{LEAST, -1, 0, 1, 2, 3, 4, MOST}});
    of.put("says", new int[][] {});
    of.put("deep", new int[][] {{LEAST, -1, 0, 7, 8, MOST}, {LEAST, 0, 1, 3, 41, MOST}, {LEAST, 0, MOST}, {LEAST, -1, 0, 1, 2, MOST}});
    of.put("step", new int[][] {{LEAST, -1, 0, 1, 9, 10, 11, 59, 60, MOST}});
    of.put("where", new int[][] {{LEAST, -1, 0, 1, 2, 3, 415, 416, 417, MOST}, {LEAST, -1, 0, 1, 2, 3, 414, 415, 416, MOST}});
    of.put("together", new int[][] {{LEAST, -1, 0, 1, 2, 3, 416, 417, MOST},
        {LEAST, -1000, -1, 0, 1, 2, 1000, 1001, 1002, 2000, 2001, 2002, 2003, 415, 416, 415415, 416416, 415416, MOST}});
    of.put("word", new int[][] {{LEAST, -100, -99, 0, 1, 2, 3, 99, 100, MOST}});
    of.put("heard", new int[][] {{LEAST, -1, 0, 1, 8, 9, MOST}});
    of.put("hides", new int[][] {});
    of.put("unstep", new int[][] {});
    of.put("undo", new int[][] {});
    of.put("redo", new int[][] {});
    of.put("act", new int[][] {WHO, {LEAST, -1, 0, 1, 2, 3, 4, MOST}, {LEAST, -1, 0, 1, MOST}});
    of.put("trace", new int[][] {{LEAST, -1, 0, 8, 9, 23, 24, MOST}});
    of.put("keep", new int[][] {SHELF, {LEAST, -2, -1, 0, 7, 8, 9, 10, MOST}});
    of.put("lay", new int[][] {SHELF, {LEAST, -1, 0, 4, 5, MOST}, {LEAST, -1, 0, 1, 60, 61, MOST}});
    of.put("put", new int[][] {SHELF, PLACE, {LEAST, -129, -1, 0, 1, 128, 32768, MOST}});
    of.put("element", new int[][] {SHELF, PLACE});
    of.put("shift", new int[][] {{-1, 0, 1, 4, 5, 6}, PLACE, {-1, 0, 2, 4, 5, 6}, {LEAST, -1, 0, 1, 2, 3, MOST}, {LEAST, -1, 0, 1, 2, 8, MOST}});
    of.put("taken", new int[][] {SHELF, {LEAST, -1, 0, 1, 2, 3, 7, 8, MOST}});
    of.put("count", new int[][] {{LEAST, -1, 0, 1, 2, 3, 4, 5, 6, MOST}});
    return of;
  }

  private static Method named(Class<?> of, String name) {
    for (Method m : of.getDeclaredMethods()) {
      if (m.getName().equals(name) && java.lang.reflect.Modifier.isPublic(m.getModifiers())) return m;
    }
    throw new IllegalStateException(name);
  }

  private void allOf(String name, int[][] values) throws Exception {
    Method mine = named(CardsGone.class, name), its = named(Model.class, name);
    int[] at = new int[values.length];
    boolean more = true;
    while (more) {
      Object[] arguments = new Object[values.length];
      for (int i = 0; i < at.length; i++) {
        int v = values[i][at[i]];
        arguments[i] = mine.getParameterTypes()[i] == long.class ? (Object) (long) v : (Object) v;
      }
      if (calls >= CALLS) begin();
      calls++;
      Object got = mine.invoke(x, arguments), want = its.invoke(model, arguments);
      Due.due(name + Arrays.toString(arguments), ((Number) got).longValue(), ((Number) want).longValue());
      more = false;
      for (int i = 0; i < at.length && !more; i++) {
        at[i]++;
        more = at[i] < values[i].length;
        if (!more) at[i] = 0;
      }
    }
  }

  /** The same table for both: players, texts, HANDS, changes, steps, bounds, shelves. */
  private void begin() throws Exception {
    x = new CardsGone();
    model = new Model();
    calls = 0;
    int[][] told = {{1, 1}, {0, 12345}, {2, 90}};
    for (int[] t : told) both("shoe", t[0], t[1]);
    for (int kind = 0; kind < 8; kind++) both("player", kind, 500 + kind, kind - 3);
    String[] texts = {"p<16|d=10&p<17", "v=1|v=10?-1;v<7", "t>0?t*9;2", "w*3+b+l"};
    for (int use = 0; use < 4; use++) {
      tape(texts[use]);
      both("text", use);
    }
    both("play", 2, 5);
    both("rule", 0, 1);
    both("rule", 1, 140);
    both("limit", 300);
    both("purse", 1, 77);
    both("undo");
    both("step", 3);
    both("step", 20);
    for (int bound = -2; bound <= 2; bound += 2) both("word", bound);
    both("act", 7, 3, 5);
    both("lay", 0, 0, 8);
    int[] cards = {10, 9, 6, 10, 5, 3, 2, 10};
    for (int i = 0; i < 8; i++) both("put", 0, i, (long) cards[i]);
    for (int sort = 1; sort < 4; sort++) both("lay", sort, sort, 2);
    both("keep", 5, 3);
    tape("v-3");
  }

  private void tape(String text) throws Exception {
    for (char c : text.toCharArray()) both("feed", 1, (int) c);
  }

  private void both(String name, Object... arguments) throws Exception {
    Object got = named(CardsGone.class, name).invoke(x, arguments), want = named(Model.class, name).invoke(model, arguments);
    Due.due(name + Arrays.toString(arguments), ((Number) got).longValue(), ((Number) want).longValue());
  }
}
