import java.lang.reflect.Method;
import java.util.ArrayList;
import java.util.Arrays;
import java.util.Comparator;
import java.util.List;
import java.util.Random;

/** Runs of calls drawn by a fixed seed: the class has to answer each of them as the plain Model does. */
public final class ModelTest {
  private static final int RUNS = 60, CALLS = 512;
  private static final String TEXT_BYTES = "pdanvblwrcts0123456789|&<=>+-*/%!();?x ";
  private static final String[] TEXTS = {
      "p<12;a&p<18;p<17&d>6;0", "p=11?2;p<17", "1", "2", "p<9|p=10?1;t>0?p<15;p<17", "p=11&n=2?2;d>6&p<17|p<12;0", "c>2?2;1",
      "v=10?0-1;v=1?-1;v<7", "v-5", "v%3-1", "-v", "v*v", "v=1",
      "t>0?t*9;1", "b/10", "b", "s*2", "99", "c*c+t", "0",
      "w*3+(b>l)", "w", "(r>0)*2+w*5", "b-l", "t+c", "l>0&b>l*2?9;w?4", "100-r"};

  private final Random random;
  private final List<Method> calls = new ArrayList<>();

  private ModelTest(long seed) {
    random = new Random(seed);
    for (Method m : CardsGone.class.getDeclaredMethods()) {
      if (java.lang.reflect.Modifier.isPublic(m.getModifiers())) calls.add(m);
    }
    calls.sort(Comparator.comparing(Method::getName));
  }

  public static void main(String[] args) throws Exception {
    int runs = args.length > 0 ? Integer.parseInt(args[0]) : RUNS;
    int first = args.length > 1 ? Integer.parseInt(args[1]) : 1;
    int wrong = 0;
    for (int i = 0; i < runs; i++) if (!new ModelTest(first + i).run(first + i)) wrong++;
    System.out.println(wrong == 0 ? runs + " runs are as the model has them" : wrong + " runs are not");
    if (wrong != 0) System.exit(1);
  }

  private CardsGone x;
  private Model model;

  private boolean run(int number) throws Exception {
    x = new CardsGone();
    model = new Model();
    begin();
    int made = 0;
    while (made < CALLS) {
      boolean feedsText = random.nextInt(14) == 0;
      String wrong;
      if (feedsText) {
        wrong = feed(aText());
        made += 30;
      } else {
        Method m = calls.get(random.nextInt(calls.size()));
        if (random.nextInt(5) == 0) m = named(random.nextBoolean() ? "play" : "led");
        wrong = call(m, arguments(m.getName(), m.getParameterCount()));
        made++;
      }
      if (wrong != null) {
        System.out.println("run " + number + ", about call " + made + ": " + wrong);
        return false;
      }
    }
    return true;
  }

  private void begin() throws Exception {
    int people = random.nextInt(8);
    for (int i = 0; i < people; i++) {
      call(named("player"), new Object[] {random.nextInt(8), random.nextInt(3) == 0 ? 99999 : random.nextInt(300),
          random.nextInt(7) - 3});
    }
    if (random.nextBoolean()) call(named("shoe"), new Object[] {1, 1 + random.nextInt(2)});
    if (random.nextBoolean()) call(named("shoe"), new Object[] {2, random.nextBoolean() ? 95 : 60 + random.nextInt(36)});
  }

  private Method named(String name) {
    for (Method m : calls) if (m.getName().equals(name)) return m;
    throw new IllegalStateException(name);
  }

  /** What is wrong with the answer, or null. */
  private String call(Method m, Object[] arguments) throws Exception {
    Object got = m.invoke(x, arguments);
    Method due = Model.class.getDeclaredMethod(m.getName(), m.getParameterTypes());
    Object want = due.invoke(model, arguments);
    if (got.equals(want)) return null;
    return m.getName() + Arrays.toString(arguments) + " answered " + got + ", due is " + want;
  }

  private String feed(String text) throws Exception {
    String wrong = null;
    for (int i = 0; i < text.length() && wrong == null; i += 4) {
      int n = Math.min(4, text.length() - i), v = 0;
      for (int k = 0; k < n; k++) v |= text.charAt(i + k) << 8 * k;
      wrong = call(named("feed"), new Object[] {n, v});
    }
    if (wrong == null) wrong = call(named("text"), new Object[] {random.nextInt(4)});
    return wrong == null ? null : wrong + " of " + text;
  }

  private String aText() {
    int sort = random.nextInt(4);
    StringBuilder text = new StringBuilder();
    if (sort == 0) text.append(TEXTS[random.nextInt(TEXTS.length)]);
    else if (sort == 1) addLines(text);
    else if (sort == 2) {
      addLines(text);
      if (text.length() > 120) text.setLength(120);
      int at = random.nextInt(text.length());
      text.setCharAt(at, TEXT_BYTES.charAt(random.nextInt(TEXT_BYTES.length())));
    } else {
      int many = random.nextInt(12);
      for (int i = 0; i < many; i++) text.append(TEXT_BYTES.charAt(random.nextInt(TEXT_BYTES.length())));
    }
    if (text.length() > 120) text.setLength(120);
    return text.toString();
  }

  private void addLines(StringBuilder text) {
    int many = 1 + random.nextInt(3);
    for (int i = 0; i < many; i++) {
      if (i > 0) text.append(';');
      addExpression(text, 3);
      if (random.nextBoolean()) {
        text.append('?');
        addExpression(text, 3);
      }
    }
  }

  private void addExpression(StringBuilder text, int depth) {
    int many = 1 + random.nextInt(3);
    boolean compared = false;
    for (int i = 0; i < many; i++) {
      if (i > 0) {
        String signs = compared ? "|&+-*/%" : "|&+-*/%<=>";
        char sign = signs.charAt(random.nextInt(signs.length()));
        compared = "<=>".indexOf(sign) >= 0 || compared && "|&".indexOf(sign) < 0;
        text.append(sign);
      }
      addOne(text, depth);
    }
  }

  private void addOne(StringBuilder text, int depth) {
    int sort = random.nextInt(6);
    if (depth > 0 && sort == 0) {
      text.append('(');
      addExpression(text, depth - 1);
      text.append(')');
    } else if (depth > 0 && sort == 1) {
      text.append(random.nextBoolean() ? '!' : '-');
      addOne(text, depth - 1);
    } else if (sort < 4) text.append("pdanvblwrcts".charAt(random.nextInt(12)));
    else text.append(random.nextInt(random.nextBoolean() ? 30 : 10000));
  }

  // ---- arguments, mostly ones that are as said

  private Object[] arguments(String name, int many) {
    Object[] a = new Object[many];
    if (random.nextInt(40) == 0) {
      for (int i = 0; i < many; i++) a[i] = wild();
    } else {
      int[] fine = fine(name);
      for (int i = 0; i < many; i++) a[i] = fine[i];
    }
    if (name.equals("put")) a[2] = random.nextInt(4) == 0 ? random.nextLong() : (long) (random.nextInt(14) - 1);
    return a;
  }

  private int wild() {
    int[] some = {Integer.MIN_VALUE, Integer.MAX_VALUE, -1, 0, 1, 9, 10, 11, 60, 61, 1000, 417, -1000, 65536};
    return random.nextInt(3) == 0 ? random.nextInt() : some[random.nextInt(some.length)];
  }

  private int from(int least, int most) {
    return least + random.nextInt(most - least + 1);
  }

  private int total() {
    return random.nextBoolean() ? from(3, 22) : from(1011, 1022);
  }

  private int[] fine(String name) {
    int who = from(-1, model.players.size()), shelf = random.nextInt(10) == 0 ? from(-1, 6) : from(0, 3);
    switch (name) {
      case "shoe": {
        int what = from(-1, 3);
        int packs = random.nextInt(3) == 0 ? from(0, 9) : 1, cut = random.nextInt(3) == 0 ? from(5, 97) : 95;
        return new int[] {what, what == 0 ? random.nextInt() : what == 1 ? packs : cut};
      }
      case "left": return new int[] {from(-1, 14)};
      case "rule": {
        int which = from(-1, 4);
        return new int[] {which, which == 1 ? from(99, 201) : which == 3 ? from(14, 20) : from(-1, 2)};
      }
      case "feed": return new int[] {from(0, 5), random.nextInt()};
      case "text": return new int[] {from(-1, 4)};
      case "tag": return new int[] {from(0, 11)};
      case "player": return new int[] {from(-1, 8), random.nextBoolean() ? from(-1, 1000) : from(-1, 100000), from(-100, 100)};
      case "ofPlayer": return new int[] {who, from(-1, 6)};
      case "purse": return new int[] {who, random.nextBoolean() ? from(-1, 300) : from(0, 100000)};
      case "limit": return new int[] {random.nextBoolean() ? from(0, 200) : from(0, 10000)};
      case "play": return new int[] {who, from(0, 61)};
      case "led": return new int[] {from(-1, model.ledHands.size()), random.nextBoolean() ? from(-1, 15) : from(9, 52)};
      case "hand": return new int[] {who, shelf, from(-1, 12)};
      case "ends": return new int[] {from(0, 11), from(14, 24)};
      case "worth": return new int[] {total(), from(0, 11), from(-1, 4)};
      case "cost": return new int[] {total(), from(0, 11), from(-1, 3)};
      case "row": return new int[] {total(), from(0, 11), from(-1, 2)};
      case "ruled": return new int[] {from(-1, 4)};
      case "deep": return new int[] {who, from(0, 41), random.nextInt(), from(0, 1)};
      case "step": return new int[] {from(0, 60)};
      case "where": return new int[] {from(1, 60), from(-1, 60)};
      case "together": return new int[] {from(1, 60), 1000 * from(-1, 40) + from(0, 60)};
      case "word": return new int[] {from(-100, 100) / from(1, 30)};
      case "heard": return new int[] {from(-1, 9)};
      case "act": return new int[] {who, from(-1, 4), random.nextInt()};
      case "trace": return new int[] {from(-1, 10)};
      case "keep": return new int[] {shelf, who};
      case "lay": return new int[] {shelf, random.nextBoolean() ? 0 : from(-1, 5), from(-1, 61)};
      case "put": return new int[] {shelf, from(-1, 30), 0};
      case "element": return new int[] {shelf, from(-1, 60)};
      case "shift": return new int[] {shelf, from(-1, 40), from(0, 3), from(-1, 40), from(-1, 20)};
      case "taken": return new int[] {shelf, from(-1, 8)};
      case "count": return new int[] {from(-1, 6)};
      default: return new int[7];
    }
  }
}
