import java.util.ArrayList;
import java.util.HashMap;
import java.util.List;
import java.util.Map;

/** The document read once more, in the plainest form and in another way than the class itself: what ModelTest compares with. */
final class Model {
  static final int BAD = -1, FULL = -3, STATE = -5, VOID = -2000000000;
  static final long M = 1000000;

  // ---- hands: a sum of VALUES and whether there is an ACE

  record Hand(int sum, boolean ace, int cards) {
    Hand with(int v) { return new Hand(sum + v, ace || v == 1, cards + 1); }
    boolean soft() { return ace && sum <= 11; }
    int total() { return soft() ? sum + 10 : sum; }
    boolean natural() { return cards == 2 && total() == 21; }
  }

  static final Hand NO_CARDS = new Hand(0, false, 0);

  static Hand told(int total) {
    return total >= 1000 ? new Hand(total - 1010, true, 2) : new Hand(total, false, 2);
  }

  // ---- by what is LEFT

  static final class Chances {
    final int[] left;
    final int[] rules;
    final int d;
    final long all;
    final Map<String, Long> known = new HashMap<>();

    Chances(int[] left, int[] rules, int d) {
      this.left = left;
      this.rules = rules;
      this.d = d;
      long sum = 0;
      for (int v = 1; v <= 10; v++) sum += left[v];
      all = sum;
    }

    static boolean draws(Hand h, int[] rules) {
      return h.total() < rules[3] || (h.soft() && h.total() == rules[3] && rules[0] == 1);
    }

    long dealer(Hand h, int end) {
      if (!draws(h, rules)) return (h.total() > 21 ? 22 : h.total()) == end ? M : 0;
      String key = "dealer " + h.sum + h.ace + " " + end;
      Long was = known.get(key);
      if (was != null) return was;
      long sum = 0;
      for (int v = 1; v <= 10; v++) if (left[v] > 0) sum += left[v] * dealer(h.with(v), end);
      known.put(key, sum / all);
      return sum / all;
    }

    long end(int end) {
      String key = "end " + end;
      Long was = known.get(key);
      if (was != null) return was;
      Hand first = NO_CARDS.with(d);
      long sum = 0;
      for (int v = 1; v <= 10; v++) {
        boolean natural = first.with(v).natural();
        if (natural && end == 23) sum += left[v] * M;
        if (!natural && end != 23) sum += left[v] * dealer(first.with(v), end);
      }
      known.put(key, sum / all);
      return sum / all;
    }

    long stand(int total) {
      long sum = 0;
      for (int e = 15; e <= 22; e++) {
        if (total > 21) sum -= end(e);
        else if (e == 22 || e < total) sum += end(e);
        else if (e > total) sum -= end(e);
      }
      return sum;
    }

    long draw(Hand h) {
      String key = "draw " + h.sum + h.ace;
      Long was = known.get(key);
      if (was != null) return was;
      long sum = 0;
      for (int v = 1; v <= 10; v++) {
        Hand then = h.with(v);
        long worth = stand(then.total());
        if (then.total() < 21) worth = Math.max(worth, draw(then));
        sum += left[v] * worth;
      }
      known.put(key, sum / all);
      return sum / all;
    }

    long twice(Hand h) {
      long sum = 0;
      for (int v = 1; v <= 10; v++) sum += left[v] * stand(h.with(v).total());
      return 2 * (sum / all);
    }

    long of(Hand h, int play) {
      return play == 0 ? stand(h.total()) : play == 1 ? draw(h) : twice(h);
    }

    int best(Hand h, boolean two) {
      int best = 0;
      int most = two && rules[2] == 1 ? 2 : 1;
      for (int play = 1; play <= most; play++) if (of(h, play) > of(h, best)) best = play;
      return best;
    }
  }

  static long wholeBy(int[] left, int[] rules) {
    Chances[] by = new Chances[11];
    for (int d = 1; d <= 10; d++) by[d] = new Chances(left, rules, d);
    long all = by[1].all;
    Map<String, Long> best = new HashMap<>();
    long overX = 0;
    for (int x = 1; x <= 10; x++) {
      long overY = 0;
      for (int y = 1; y <= 10; y++) {
        Hand h = NO_CARDS.with(x).with(y);
        long overD = 0;
        for (int d = 1; d <= 10; d++) {
          long worth;
          if (h.natural()) worth = rules[1] * 10000L * (M - by[d].end(23)) / M;
          else {
            String key = h.sum + " " + h.ace + " " + d;
            Long was = best.get(key);
            if (was == null) {
              was = by[d].of(h, by[d].best(h, true));
              best.put(key, was);
            }
            worth = was - by[d].end(23);
          }
          overD += left[d] * worth;
        }
        overY += left[y] * (overD / all);
      }
      overX += left[x] * (overY / all);
    }
    return overX / all;
  }

  // ---- texts

  static final String NAMES = "pdanvblwrcts";

  /** The FAULT of a TEXT, or -1. */
  static int fault(String text) {
    List<int[]> frames = new ArrayList<>(); // of each open (: unaries ahead of it, whether S was compared there
    int unaries = 0, open = 0, digits = 0;
    boolean wanted = true, compared = false, asked = false;
    for (int i = 0; i < text.length(); i++) {
      char c = text.charAt(i);
      if (wanted) {
        if (Character.isDigit(c) || NAMES.indexOf(c) >= 0) {
          digits = Character.isDigit(c) ? 1 : 4;
          open -= unaries;
          unaries = 0;
          wanted = false;
        } else if (c == '!' || c == '-') {
          if (open == 6) return i;
          open++;
          unaries++;
        } else if (c == '(') {
          if (open == 6) return i;
          open++;
          frames.add(new int[] {unaries, compared ? 1 : 0});
          unaries = 0;
          compared = false;
        } else return i;
        continue;
      }
      if (Character.isDigit(c)) {
        if (digits == 4) return i;
        digits++;
        continue;
      }
      digits = 4;
      if ("|&+-*/%".indexOf(c) >= 0) {
        if (c == '|' || c == '&') compared = false;
        wanted = true;
      } else if ("<=>".indexOf(c) >= 0 && !compared) {
        compared = true;
        wanted = true;
      } else if (c == ')' && !frames.isEmpty()) {
        int[] frame = frames.remove(frames.size() - 1);
        open -= 1 + frame[0];
        compared = frame[1] == 1;
      } else if (c == '?' && frames.isEmpty() && !asked) {
        asked = true;
        compared = false;
        wanted = true;
      } else if (c == ';' && frames.isEmpty()) {
        asked = false;
        compared = false;
        wanted = true;
      } else return i;
    }
    return wanted || !frames.isEmpty() ? text.length() : -1;
  }

  static int valueOf(String text, Map<Character, Integer> names) {
    for (String line : text.split(";")) {
      int mark = line.indexOf('?');
      if (mark < 0) return expression(line, names);
      if (expression(line.substring(0, mark), names) != 0) return expression(line.substring(mark + 1), names);
    }
    return 0;
  }

  /** Parted at the last sign of the loosest sort outside ( ). */
  static int expression(String e, Map<Character, Integer> names) {
    for (String signs : new String[] {"|", "&", "<=>", "+-", "*/%"}) {
      int depth = 0;
      for (int i = e.length() - 1; i > 0; i--) {
        char c = e.charAt(i);
        if (c == ')') depth++;
        if (c == '(') depth--;
        char ahead = e.charAt(i - 1);
        boolean joins = ahead == ')' || Character.isLetterOrDigit(ahead);
        if (depth == 0 && joins && signs.indexOf(c) >= 0) {
          return joined(expression(e.substring(0, i), names), c, expression(e.substring(i + 1), names));
        }
      }
    }
    char c = e.charAt(0);
    if (c == '!') return expression(e.substring(1), names) == 0 ? 1 : 0;
    if (c == '-') return -expression(e.substring(1), names);
    if (c == '(') return expression(e.substring(1, e.length() - 1), names);
    if (Character.isDigit(c)) return Integer.parseInt(e);
    return names.getOrDefault(c, 0);
  }

  static int joined(int a, char sign, int b) {
    switch (sign) {
      case '|': return (a != 0) | (b != 0) ? 1 : 0;
      case '&': return (a != 0) & (b != 0) ? 1 : 0;
      case '<': return a < b ? 1 : 0;
      case '=': return a == b ? 1 : 0;
      case '>': return a > b ? 1 : 0;
      case '+': return (int) ((long) a + b);
      case '-': return (int) ((long) a - b);
      case '*': return (int) ((long) a * b);
      case '/': return b == 0 ? 0 : (int) ((long) a / b);
      default: return b == 0 ? 0 : (int) ((long) a % b);
    }
  }

  static int within(int v, int least, int most) {
    return Math.min(most, Math.max(least, v));
  }

  // ---- the state

  static final class Player implements Cloneable {
    int kind, purse, call, points, hands, last;
    Player copy() {
      Player p = new Player();
      p.kind = kind;
      p.purse = purse;
      p.call = call;
      p.points = points;
      p.hands = hands;
      p.last = last;
      return p;
    }
    boolean sees() { return kind == 2 || kind == 3 || kind == 4 || kind == 5 || kind == 7; }
  }

  static final class Led {
    int bet, brought, t, c, points, without, misdeal, w;
    int[] left;
    final List<Integer> mine = new ArrayList<>(), theirs = new ArrayList<>();
    final List<Hand> asked = new ArrayList<>();
    final List<Integer> made = new ArrayList<>();
  }

  int seed, packs = 6, cut = 75, z, gone, counted;
  boolean due = true;
  int[] shoe = new int[0];
  int[] seen = new int[11];
  int[] rules = {0, 150, 1, 17};
  int limit = 9999;
  final String[] texts = new String[4];
  final StringBuilder tape = new StringBuilder();
  final List<Player> players = new ArrayList<>();
  List<Led> ledHands = new ArrayList<>();
  final List<Integer> steps = new ArrayList<>(), bounds = new ArrayList<>();
  final List<int[]> undoable = new ArrayList<>(), redoable = new ArrayList<>();
  final List<Integer> ran = new ArrayList<>();
  final Object[] shelves = new Object[6];
  final int[] sorts = new int[6];

  int[] leftNow() {
    int[] left = new int[11];
    for (int v = 1; v <= 10; v++) left[v] = packs * (v == 10 ? 16 : 4) - seen[v];
    return left;
  }

  int allLeft() {
    int sum = 0;
    for (int many : leftNow()) sum += many;
    return sum;
  }

  int trueCount() { return allLeft() == 0 ? 0 : counted * 52 / allLeft(); }

  int tagOf(int v) { return texts[1] == null ? 0 : within(valueOf(texts[1], Map.of('v', v)), -9, 9); }

  void open(int v) {
    seen[v]++;
    counted += tagOf(v);
  }

  void shuffle() {
    List<Integer> cards = new ArrayList<>();
    for (int v = 1; v <= 10; v++) for (int i = 0; i < packs * (v == 10 ? 16 : 4); i++) cards.add(v);
    for (int i = cards.size() - 1; i >= 1; i--) {
      z = z * 1103515245 + 12345;
      java.util.Collections.swap(cards, i, (z >>> 8) % (i + 1));
    }
    shoe = new int[cards.size()];
    for (int i = 0; i < shoe.length; i++) shoe[i] = cards.get(i);
    seen = new int[11];
    counted = 0;
    gone = 1;
    due = false;
  }

  // ---- one HAND

  static final class Wanting extends Exception { }

  /** Where cards come from: THE SHOE, or a row's bytes from a place on. */
  final class Source {
    byte[] row;
    int at;
    boolean fromRow;
    int next(boolean isOpen) throws Wanting {
      if (fromRow) {
        if (row == null || at < 0 || at >= row.length || row[at] < 1 || row[at] > 10) throw new Wanting();
        return row[at++];
      }
      if (gone >= shoe.length) throw new Wanting();
      int v = shoe[gone++];
      if (isOpen) open(v);
      return v;
    }
  }

  static Hand handOf(List<Integer> cards) {
    Hand h = NO_CARDS;
    for (int v : cards) h = h.with(v);
    return h;
  }

  int playText(Player p, Led led) {
    Hand h = handOf(led.mine);
    if (texts[0] == null) return h.total() < 17 ? 1 : 0;
    Map<Character, Integer> names = new HashMap<>();
    names.put('p', h.total());
    names.put('a', h.soft() ? 1 : 0);
    names.put('d', led.theirs.get(0));
    names.put('n', h.cards());
    names.put('c', p.sees() ? counted : 0);
    names.put('t', p.sees() ? trueCount() : 0);
    names.put('s', p.kind == 3 ? leftNow()[1] : 0);
    return valueOf(texts[0], names);
  }

  void run(Player p, Led led, Source from, boolean turned) throws Wanting {
    led.mine.add(from.next(true));
    led.theirs.add(from.next(true));
    led.mine.add(from.next(true));
    led.theirs.add(from.next(false));
    boolean mine = handOf(led.mine).natural(), theirs = handOf(led.theirs).natural();
    int stake = led.bet * 100;
    if (mine || theirs) {
      led.brought = mine && theirs ? 0 : mine ? led.bet * rules[1] : -stake;
      return;
    }
    while (handOf(led.mine).total() < 21) {
      int play = playText(p, led);
      if (play != 1 && play != 2) play = 0;
      if (turned && led.made.isEmpty()) play = play == 0 ? 1 : 0;
      if (play == 2 && (led.mine.size() != 2 || rules[2] == 0)) play = 1;
      led.asked.add(handOf(led.mine));
      led.made.add(play);
      if (play == 0) break;
      if (play == 2) stake *= 2;
      led.mine.add(from.next(true));
      if (play == 2) break;
    }
    int total = handOf(led.mine).total();
    if (total > 21) {
      led.brought = -stake;
      return;
    }
    while (Chances.draws(handOf(led.theirs), rules)) led.theirs.add(from.next(true));
    int other = handOf(led.theirs).total();
    led.brought = other > 21 || other < total ? stake : other == total ? 0 : -stake;
  }

  int betOf(Player p) {
    int units = p.purse / 100;
    int bet = 1;
    if (texts[2] != null && p.kind != 4) {
      Map<Character, Integer> names = new HashMap<>();
      names.put('b', units);
      names.put('c', p.sees() ? counted : 0);
      names.put('t', p.sees() ? trueCount() : 0);
      names.put('s', p.kind == 3 ? leftNow()[1] : 0);
      bet = within(valueOf(texts[2], names), 1, 99);
    }
    if ((p.kind == 5 || p.kind == 7) && trueCount() < p.call) bet = 0;
    return Math.min(bet, units);
  }

  int points(Led led, int last, int w) {
    if (texts[3] == null) return 0;
    Map<Character, Integer> names = new HashMap<>();
    names.put('b', led.bet);
    names.put('l', last);
    names.put('w', w);
    names.put('r', led.brought / 100);
    names.put('c', led.c);
    names.put('t', led.t);
    return within(valueOf(texts[3], names), 0, 99);
  }

  Led playOne(Player p) {
    if (due || gone >= packs * 52 * cut / 100) shuffle();
    Led led = new Led();
    led.t = trueCount();
    led.c = counted;
    led.left = leftNow();
    led.bet = betOf(p);
    try {
      run(p, led, new Source(), p.kind == 7 && (p.hands + 1) % 3 == 0);
      open(led.theirs.get(1));
    } catch (Wanting none) {
      led.brought = 0;
      led.misdeal = 1;
      due = true;
    }
    Chances by = new Chances(led.left, rules, led.theirs.get(0));
    for (int i = 0; i < led.made.size(); i++) {
      if (by.best(led.asked.get(i), led.asked.get(i).cards() == 2) != led.made.get(i)) led.w = 1;
    }
    led.points = points(led, p.last, led.w);
    led.without = points(led, p.last, 0);
    p.purse = within(p.purse + led.brought, 0, 9999900);
    p.points += led.points;
    p.last = led.bet;
    p.hands++;
    return led;
  }

  boolean goesOn(Player p) { return p.purse >= 100 && p.points < limit; }

  Player playerAt(int i) { return i >= 0 && i < players.size() ? players.get(i) : null; }

  // ---- the face

  public int shoe(int what, int v) {
    int was;
    if (what == 0) {
      was = seed;
      seed = v;
      z = v;
    } else if (what == 1 && v >= 1 && v <= 8) {
      was = packs;
      packs = v;
      seen = new int[11];
      counted = 0;
      gone = 0;
    } else if (what == 2 && v >= 10 && v <= 95) {
      was = cut;
      cut = v;
    } else return VOID;
    due = true;
    return was;
  }

  public int left(int what) {
    if (what < 0 || what > 13) return VOID;
    if (what == 0) return allLeft();
    if (what <= 10) return leftNow()[what];
    return what == 11 ? counted : what == 12 ? gone : trueCount();
  }

  void change(int what, int was, int now) {
    if (was == now) return;
    undoable.add(new int[] {what, was, now});
    if (undoable.size() > 40) undoable.remove(0);
    redoable.clear();
  }

  void becomes(int what, int v) {
    if (what < 4) rules[what] = v;
    else if (what == 4) limit = v;
    else players.get(what - 5).purse = v;
  }

  public int rule(int which, int v) {
    int[][] bounds = {{0, 1}, {100, 200}, {0, 1}, {15, 19}};
    if (which < 0 || which > 3 || v < bounds[which][0] || v > bounds[which][1]) return BAD;
    int was = rules[which];
    change(which, was, v);
    rules[which] = v;
    return was;
  }

  public int feed(int n, int v) {
    if (n < 1 || n > 4) return BAD;
    if (tape.length() + n > 120) return FULL;
    for (int i = 0; i < n; i++) {
      tape.append((char) (v & 255));
      v >>= 8;
    }
    return tape.length();
  }

  public int text(int use) {
    if (use < 0 || use > 3) return BAD;
    int fault = fault(tape.toString());
    if (fault < 0) texts[use] = tape.toString();
    tape.setLength(0);
    return fault < 0 ? 1 : -100 - fault;
  }

  public int tag(int v) { return v < 1 || v > 10 ? VOID : tagOf(v); }

  public int player(int kind, int purse, int call) {
    if (kind < 0 || kind > 7 || purse < 0 || purse > 99999 || call < -99 || call > 99) return BAD;
    if (players.size() == 10) return FULL;
    Player p = new Player();
    p.kind = kind;
    p.purse = purse * 100;
    p.call = call;
    players.add(p);
    return players.size() - 1;
  }

  public int ofPlayer(int player, int what) {
    Player p = playerAt(player);
    if (p == null || what < 0 || what > 5) return VOID;
    return new int[] {p.kind, p.purse, p.call, p.points, p.points >= limit ? 1 : 0, p.hands}[what];
  }

  public int purse(int player, int v) {
    Player p = playerAt(player);
    if (p == null || v < 0 || v > 99999) return BAD;
    int was = p.purse;
    change(5 + player, was, v * 100);
    p.purse = v * 100;
    return was;
  }

  public int limit(int v) {
    if (v < 1 || v > 9999) return BAD;
    int was = limit;
    change(4, was, v);
    limit = v;
    return was;
  }

  public int play(int player, int n) {
    Player p = playerAt(player);
    if (p == null || n < 1 || n > 60) return VOID;
    ledHands = new ArrayList<>();
    int sum = 0;
    while (ledHands.size() < n && goesOn(p)) {
      Led led = playOne(p);
      ledHands.add(led);
      sum += led.brought;
    }
    return sum;
  }

  public int led(int h, int what) {
    if (h == -1) return what == 0 ? ledHands.size() : VOID;
    if (h < 0 || h >= ledHands.size() || what < 0) return VOID;
    Led led = ledHands.get(h);
    int[] told = {led.bet, led.brought, led.mine.size(), led.theirs.size(), led.made.size(), led.t, led.points,
        led.misdeal, led.w};
    if (what < told.length) return told[what];
    if (what >= 10 && what < 30 && what - 10 < led.mine.size()) return led.mine.get(what - 10);
    if (what >= 30 && what < 50 && what - 30 < led.theirs.size()) return led.theirs.get(what - 30);
    return VOID;
  }

  public int hand(int player, int shelf, int i) {
    Player p = playerAt(player);
    if (p == null || shelf < 0 || shelf > 5) return VOID;
    Source from = new Source();
    from.fromRow = true;
    from.at = i;
    if (shelves[shelf] != null) {
      if (!(shelves[shelf] instanceof long[]) || sorts[shelf] != 0) return -12;
      long[] row = (long[]) shelves[shelf];
      from.row = new byte[row.length];
      for (int k = 0; k < row.length; k++) from.row[k] = (byte) row[k];
    }
    Led led = new Led();
    led.bet = 1;
    try {
      run(p, led, from, false);
    } catch (Wanting none) {
      return -999999;
    }
    return led.brought;
  }

  Chances now(int d) { return new Chances(leftNow(), rules, d); }

  Chances wholeShoe(int d) {
    int[] left = new int[11];
    for (int v = 1; v <= 10; v++) left[v] = packs * (v == 10 ? 16 : 4);
    return new Chances(left, rules, d);
  }

  public int ends(int d, int total) {
    return d < 1 || d > 10 || total < 15 || total > 23 ? BAD : (int) now(d).end(total);
  }

  static boolean isLine(int total, int d) {
    return (total >= 4 && total <= 21 || total >= 1012 && total <= 1021) && d >= 1 && d <= 10;
  }

  public int worth(int total, int d, int what) {
    if (!isLine(total, d) || what < 0 || what > 3) return VOID;
    return what == 3 ? now(d).best(told(total), true) : (int) now(d).of(told(total), what);
  }

  public int cost(int total, int d, int play) {
    if (!isLine(total, d) || play < 0 || play > 2 || play == 2 && rules[2] == 0) return VOID;
    Chances by = now(d);
    return (int) (by.of(told(total), by.best(told(total), true)) - by.of(told(total), play));
  }

  public int whole() { return (int) wholeBy(leftNow(), rules); }

  public int row(int total, int d, int what) {
    if (!isLine(total, d) || what < 0 || what > 1) return VOID;
    Chances by = wholeShoe(d);
    int best = by.best(told(total), true);
    if (what == 0) return best;
    long next = Long.MIN_VALUE;
    for (int play = 0; play <= (rules[2] == 1 ? 2 : 1); play++) {
      if (play != best) next = Math.max(next, by.of(told(total), play));
    }
    return (int) (by.of(told(total), best) - next);
  }

  public int ruled(int which) {
    if (which < 0 || which > 3) return VOID;
    int[] left = wholeShoe(1).left;
    int[] other = rules.clone();
    other[which] = new int[] {0, 150, 1, 17}[which];
    return (int) (wholeBy(left, rules) - wholeBy(left, other));
  }

  public int says() {
    if (ledHands.isEmpty()) return VOID;
    long[] worth = new long[ledHands.size()];
    for (int i = 0; i < worth.length; i++) worth[i] = wholeBy(ledHands.get(i).left, rules);
    int sum = 0;
    for (int i = 0; i < worth.length; i++) {
      for (int j = 0; j < worth.length; j++) {
        int more = ledHands.get(i).t - ledHands.get(j).t;
        if (more > 0 && worth[i] > worth[j]) sum++;
        if (more > 0 && worth[i] < worth[j]) sum--;
      }
    }
    return sum;
  }

  public int deep(int player, int n, int bySeed, int what) {
    Player p = playerAt(player);
    if (p == null || n < 1 || n > 40 || what < 0 || what > 1) return VOID;
    int wasZ = z, wasCut = cut, wasGone = gone, wasCounted = counted;
    boolean wasDue = due;
    int[] wasShoe = shoe, wasSeen = seen;
    int bestCut = 0, least = Integer.MAX_VALUE;
    for (cut = 10; cut <= 95; cut += 5) {
      Player copy = p.copy();
      z = bySeed;
      due = true;
      int sum = 0;
      for (int i = 0; i < n && goesOn(copy); i++) sum += playOne(copy).brought;
      if (sum < least) {
        least = sum;
        bestCut = cut;
      }
    }
    z = wasZ;
    cut = wasCut;
    gone = wasGone;
    counted = wasCounted;
    due = wasDue;
    shoe = wasShoe;
    seen = wasSeen;
    return what == 0 ? bestCut : least;
  }

  public int step(int v) {
    if (!(v >= 1 && v <= 9 || v >= 11 && v <= 59)) return BAD;
    if (steps.size() == 12) return FULL;
    steps.add(v);
    return steps.size();
  }

  public int unstep() {
    int had = steps.size();
    steps.clear();
    return had;
  }

  /** The cards 0 .. n - 1 as the told SHUFFLE leaves them. */
  List<Integer> shuffled(int n) {
    List<Integer> cards = new ArrayList<>();
    for (int i = 0; i < n; i++) cards.add(i);
    for (int step : steps) {
      List<Integer> next = new ArrayList<>();
      if (step > 10) {
        int many = Math.min(step - 10, n);
        next.addAll(cards.subList(many, n));
        next.addAll(cards.subList(0, many));
      } else {
        int half = n - n / 2;
        List<Integer> first = new ArrayList<>(cards.subList(0, half)), second = new ArrayList<>(cards.subList(half, n));
        while (!first.isEmpty() || !second.isEmpty()) {
          for (int i = 0; i < step && !first.isEmpty(); i++) next.add(first.remove(0));
          for (int i = 0; i < step && !second.isEmpty(); i++) next.add(second.remove(0));
        }
      }
      cards = next;
    }
    return cards;
  }

  public int where(int n, int place) {
    return n < 2 || n > 416 || place < 0 || place >= n ? BAD : shuffled(n).indexOf(place);
  }

  public int together(int n, int ab) {
    int a = ab / 1000, b = ab % 1000;
    if (n < 2 || n > 416 || ab < 0 || a > b || b >= n) return BAD;
    List<Integer> cards = shuffled(n);
    int least = n, most = -1;
    for (int i = a; i <= b; i++) {
      least = Math.min(least, cards.indexOf(i));
      most = Math.max(most, cards.indexOf(i));
    }
    return most - least;
  }

  public int word(int bound) {
    if (bound < -99 || bound > 99 || !bounds.isEmpty() && bounds.get(bounds.size() - 1) >= bound) return BAD;
    if (bounds.size() == 8) return FULL;
    bounds.add(bound);
    return bounds.size();
  }

  public int heard(int word) {
    if (word < 0 || word > 8) return BAD;
    int many = 0;
    for (Led led : ledHands) if (bounds.stream().filter(b -> b <= led.t).count() == word) many++;
    return many;
  }

  public int hides() { return ledHands.stream().mapToInt(led -> led.points - led.without).sum(); }

  public int undo() {
    if (undoable.isEmpty()) return STATE;
    int[] change = undoable.remove(undoable.size() - 1);
    redoable.add(change);
    becomes(change[0], change[1]);
    return undoable.size();
  }

  public int redo() {
    if (redoable.isEmpty()) return STATE;
    int[] change = redoable.remove(redoable.size() - 1);
    undoable.add(change);
    becomes(change[0], change[2]);
    return redoable.size();
  }

  // ---- acts, as classes of Java that stand under one another

  interface Plays {
    int n();
    void ran(int body);
    default int plays(int x) {
      ran(1);
      return x + n();
    }
  }

  interface Tells extends Plays {
    int counts(int x);
    int bets(int x);
    default int tells(int x) {
      ran(2);
      return counts(x) - bets(1);
    }
  }

  static class Person implements Tells {
    List<Integer> trace;
    int number;
    public int n() { return number; }
    public void ran(int body) { trace.add(body); }
    public int plays(int x) { return Tells.super.plays(x); }
    public int tells(int x) { return Tells.super.tells(x); }
    public int counts(int x) {
      ran(10);
      return plays(x) * 2;
    }
    public int bets(int x) {
      ran(11);
      return x ^ n();
    }
  }

  static class Plain extends Person {
    public int counts(int x) {
      ran(20);
      return super.counts(x) + 3;
    }
  }

  static class Counting extends Plain {
    public int bets(int x) {
      ran(30);
      return super.bets(x) * 3;
    }
  }

  static class Side extends Counting {
    public int plays(int x) {
      ran(40);
      return super.plays(x) - 1;
    }
  }

  static class Signalling extends Counting {
    public int bets(int x) {
      ran(50);
      return super.bets(x) - plays(2);
    }
  }

  static class Big extends Person {
    public int counts(int x) {
      ran(60);
      return -super.counts(x);
    }
    public int tells(int x) {
      ran(61);
      return super.tells(x) ^ 5;
    }
  }

  static class Lump extends Person {
    public int plays(int x) {
      ran(70);
      return super.plays(x + 1);
    }
  }

  static class Feigned extends Big {
    public int counts(int x) {
      ran(80);
      return super.counts(x) + bets(2);
    }
    public int tells(int x) {
      ran(81);
      return super.tells(x) * 2;
    }
  }

  public int act(int player, int act, int x) {
    ran.clear();
    Player p = playerAt(player);
    if (p == null || act < 0 || act > 3) return 0;
    Person person = new Person[] {new Person(), new Plain(), new Counting(), new Side(), new Signalling(), new Big(),
        new Lump(), new Feigned()}[p.kind];
    person.trace = ran;
    person.number = player;
    return act == 0 ? person.plays(x) : act == 1 ? person.counts(x) : act == 2 ? person.bets(x) : person.tells(x);
  }

  public int trace(int i) { return i < 0 || i >= ran.size() || i >= 24 ? BAD : ran.get(i); }

  // ---- shelves

  public int keep(int shelf, int player) {
    if (shelf < 0 || shelf > 5 || player != -1 && playerAt(player) == null) return BAD;
    shelves[shelf] = player == -1 ? null : playerAt(player);
    return 1;
  }

  public int lay(int shelf, int sort, int n) {
    if (shelf < 0 || shelf > 5 || sort < 0 || sort > 4 || n > 60) return BAD;
    if (n < 0) return -14;
    shelves[shelf] = new long[n];
    sorts[shelf] = sort;
    return 1;
  }

  int refusal(int shelf, int i) {
    if (shelf < 0 || shelf > 5) return BAD;
    if (shelves[shelf] == null) return -11;
    if (!(shelves[shelf] instanceof long[])) return -12;
    return i < 0 || i >= ((long[]) shelves[shelf]).length ? -13 : 0;
  }

  public int put(int shelf, int i, long v) {
    int refusal = refusal(shelf, i);
    if (refusal != 0) return refusal;
    long[] kept = {v << 56 >> 56, v << 48 >> 48, v << 32 >> 32, v, v == 0 ? 0 : 1};
    ((long[]) shelves[shelf])[i] = kept[sorts[shelf]];
    return 1;
  }

  public long element(int shelf, int i) {
    return refusal(shelf, i) == 0 ? ((long[]) shelves[shelf])[i] : Long.MIN_VALUE;
  }

  public int shift(int shelf, int i, int other, int j, int n) {
    if (shelf < 0 || shelf > 5 || other < 0 || other > 5) return BAD;
    if (shelves[shelf] == null || shelves[other] == null) return -11;
    if (!(shelves[shelf] instanceof long[]) || !(shelves[other] instanceof long[])) return -12;
    if (sorts[shelf] != sorts[other]) return -12;
    long[] from = (long[]) shelves[shelf], to = (long[]) shelves[other];
    if (i < 0 || j < 0 || n < 0 || (long) i + n > from.length || (long) j + n > to.length) return -13;
    System.arraycopy(from.clone(), i, to, j, n);
    return n;
  }

  public int taken(int shelf, int k) {
    if (shelf < 0 || shelf > 5 || k < 0 || k > 7) return BAD;
    if (shelves[shelf] == null) return -11;
    if (!(shelves[shelf] instanceof Player)) return -12;
    int kind = ((Player) shelves[shelf]).kind;
    String[] under = {"0", "10", "210", "3210", "4210", "50", "60", "750"};
    return under[kind].indexOf('0' + k) >= 0 ? kind : -12;
  }

  public int count(int what) {
    if (what < 0 || what > 5) return BAD;
    return new int[] {players.size(), tape.length(), steps.size(), bounds.size(), undoable.size(), ran.size()}[what];
  }
}
