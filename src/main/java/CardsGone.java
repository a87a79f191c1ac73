/** A table of twenty-one whose packs are not shuffled until so much is gone, and what it says to count that. */
public final class CardsGone {
  public static final int BAD = -1, NOT = -2, FULL = -3, STATE = -5, VOID = -2000000000;

  private static final int NOTHING_THERE = -11, OTHER_KIND = -12, NO_PLACE = -13, NO_SIZE = -14;
  private static final int MISDEALT = -999999;
  private static final int VALUES = 10, ACE = 1, TEN = 10;
  private static final int TWENTY_ONE = 21, SOFT = 1000;
  private static final int STAND = 0, DRAW = 1, DOUBLE = 2;
  private static final int SOFT_STANDS = 0, PAYS = 1, MAY_DOUBLE = 2, STANDS = 3, RULES = 4;
  private static final int OF_PLAY = 0, OF_TAGS = 1, OF_BETS = 2, OF_WATCHES = 3, USES = 4;
  private static final int SIDE = 3, SIGNALLING = 4, BIG = 5, FEIGNED = 7, KINDS = 8;
  private static final int PLAYERS = 10, LED_HANDS = 60, DEEP_HANDS = 40, CARDS_A_HAND = 20;
  private static final int TAPE = 120, SHELVES = 6, PLACES = 60, SORTS = 5, BOOLEANS = 4;
  private static final int LIMIT_CHANGED = 4, PURSE_CHANGED = 10;
  private static final int MOST_UNITS = 99999, MOST_PURSE = 9999900, MOST_POINTS = 99;

  private final Shoe table = new Shoe();
  private final Game game = new Game();
  private final Odds odds = new Odds();
  private final Reader reader = new Reader();
  private final Body[] bodies = new Body[PLAYERS];
  private final Deal[] deals = new Deal[LED_HANDS];
  private final int[] askedLeft = new int[VALUES + 1];
  private final Shelf[] shelves = new Shelf[SHELVES];
  private final Changes changes = new Changes();
  private final Lumps lumps = new Lumps();
  private final Acts acts = new Acts();
  private final int[] bounds = new int[8];
  private int players, ledHands, boundCount;
  private int limitNow = 9999;

  public CardsGone() {
    for (int i = 0; i < bodies.length; i++) bodies[i] = new Body();
    for (int i = 0; i < deals.length; i++) deals[i] = new Deal();
    for (int i = 0; i < shelves.length; i++) shelves[i] = new Shelf();
  }

  // ---- the shoe, rules, texts

  public int shoe(int what, int v) {
    if (what == 0) return table.seedBecomes(v);
    if (what == 1 && v >= 1 && v <= 8) return table.packsBecome(v);
    if (what == 2 && v >= 10 && v <= 95) return table.cutBecomes(v);
    return VOID;
  }

  public int left(int what) {
    if (what >= 0 && what <= VALUES) return table.leftOf(what);
    if (what == 11) return table.counted;
    if (what == 12) return table.gone;
    return what == 13 ? table.trueCount() : VOID;
  }

  public int rule(int which, int v) {
    if (which < 0 || which >= RULES || v < leastOfRule(which) || v > mostOfRule(which)) return BAD;
    int was = at(game.rules, which);
    if (v != was) changes.come(which, was, v);
    set(game.rules, which, v);
    return was;
  }

  public int feed(int n, int v) {
    if (n < 1 || n > 4) return BAD;
    return reader.takeIn(n, v) ? reader.length : FULL;
  }

  public int text(int use) {
    if (use < 0 || use >= USES) return BAD;
    boolean good = reader.readText();
    int fault = reader.place;
    if (good) textBecomes(use);
    reader.length = 0;
    return good ? 1 : -100 - fault;
  }

  public int tag(int v) {
    return v >= ACE && v <= VALUES ? at(game.tags, v) : VOID;
  }

  // ---- players, hands

  public int player(int kind, int purse, int call) {
    if (kind < 0 || kind >= KINDS || purse < 0 || purse > MOST_UNITS || call < -99 || call > 99) return BAD;
    if (players >= PLAYERS || players >= bodies.length) return FULL;
    Body body = bodies[players];
    if (body == null) return FULL;
    body.kind = kind;
    body.purse = purse * 100;
    body.call = call;
    players++;
    return players - 1;
  }

  public int ofPlayer(int player, int what) {
    Body body = bodyAt(player);
    if (body == null) return VOID;
    switch (what) {
      case 0: return body.kind;
      case 1: return body.purse;
      case 2: return body.call;
      case 3: return body.points;
      case 4: return body.points >= limitNow ? 1 : 0;
      case 5: return body.hands;
      default: return VOID;
    }
  }

  public int purse(int player, int v) {
    Body body = bodyAt(player);
    if (body == null || v < 0 || v > MOST_UNITS) return BAD;
    int was = body.purse;
    if (was != v * 100) changes.come(PURSE_CHANGED + player, was, v * 100);
    body.purse = v * 100;
    return was;
  }

  public int limit(int v) {
    if (v < 1 || v > 9999) return BAD;
    int was = limitNow;
    if (was != v) changes.come(LIMIT_CHANGED, was, v);
    limitNow = v;
    return was;
  }

  public int play(int player, int n) {
    Body body = bodyAt(player);
    if (body == null || n < 1 || n > LED_HANDS) return VOID;
    ledHands = 0;
    int brought = 0;
    for (int i = 0; i < n && mayPlay(body); i++) {
      Deal deal = i < deals.length ? deals[i] : null;
      if (deal == null) return brought;
      game.playOne(body, table, deal, true);
      ledHands++;
      brought += deal.brought;
    }
    return brought;
  }

  public int led(int h, int what) {
    if (h == -1 && what == 0) return ledHands;
    Deal deal = dealAt(h);
    return deal == null ? VOID : deal.told(what);
  }

  public int hand(int player, int shelf, int i) {
    Body body = bodyAt(player);
    Shelf row = shelfAt(shelf);
    if (body == null || row == null) return VOID;
    if (!row.isEmpty() && !row.holdsRow(0)) return OTHER_KIND;
    return game.playFromRow(body, table, row, i) ? game.spareDeal.brought : MISDEALT;
  }

  // ---- by what is left

  public int ends(int d, int total) {
    if (d < ACE || d > VALUES || total < 15 || total > 23) return BAD;
    if (!oddsAreOfNow()) return STATE;
    odds.face(d);
    return odds.endFromOpen(total);
  }

  public int worth(int total, int d, int what) {
    if (!isLine(total, d) || what < 0 || what > 3 || !oddsAreOfNow()) return VOID;
    odds.face(d);
    return what == 3 ? odds.bestPlay(total, true) : odds.worthOf(total, what);
  }

  public int cost(int total, int d, int play) {
    if (!isLine(total, d) || play < STAND || play > DOUBLE) return VOID;
    if (play == DOUBLE && at(game.rules, MAY_DOUBLE) == 0 || !oddsAreOfNow()) return VOID;
    odds.face(d);
    return odds.worthOf(total, odds.bestPlay(total, true)) - odds.worthOf(total, play);
  }

  public int whole() {
    return oddsAreOfNow() ? odds.handWorth() : VOID;
  }

  public int row(int total, int d, int what) {
    if (!isLine(total, d) || what < 0 || what > 1 || !oddsAreOfWhole()) return VOID;
    odds.face(d);
    return what == 0 ? odds.bestPlay(total, true) : odds.lineWorth(total);
  }

  public int ruled(int which) {
    if (which < 0 || which >= RULES || !oddsAreOfWhole()) return VOID;
    int worth = odds.handWorth();
    int asIs = at(game.rules, which);
    set(game.rules, which, firstOfRule(which));
    boolean asked = oddsAreOfWhole();
    set(game.rules, which, asIs);
    return asked ? worth - odds.handWorth() : VOID;
  }

  public int says() {
    if (ledHands == 0) return VOID;
    for (int i = 0; i < ledHands; i++) {
      Deal deal = dealAt(i);
      if (deal != null) deal.worth = odds.load(deal.left, game.rules) ? odds.handWorth() : 0;
    }
    int sum = 0;
    for (int i = 0; i < ledHands; i++) {
      for (int j = 0; j < i; j++) sum += agreement(dealAt(i), dealAt(j));
    }
    return sum;
  }

  // ---- deep, lumps, words

  public int deep(int player, int n, int seed, int what) {
    Body body = bodyAt(player);
    if (body == null || n < 1 || n > DEEP_HANDS || what < 0 || what > 1) return VOID;
    int leastCut = 10;
    int least = trial(body, n, seed, 10);
    for (int cut = 15; cut <= 95; cut += 5) {
      int brought = trial(body, n, seed, cut);
      if (brought < least) {
        least = brought;
        leastCut = cut;
      }
    }
    return what == 0 ? leastCut : least;
  }

  public int step(int v) {
    if (v < 1 || v > 59 || v == 10) return BAD;
    return lumps.come(v) ? lumps.count : FULL;
  }

  public int unstep() {
    int had = lumps.count;
    lumps.count = 0;
    return had;
  }

  public int where(int n, int place) {
    return isPile(n) && place >= 0 && place < n ? lumps.placeOf(n, place) : BAD;
  }

  public int together(int n, int ab) {
    if (!isPile(n) || ab < 0) return BAD;
    int a = ab / 1000, b = ab % 1000;
    return a <= b && b < n ? lumps.span(n, a, b) : BAD;
  }

  public int word(int bound) {
    if (bound < -99 || bound > 99) return BAD;
    if (boundCount > 0 && bound <= at(bounds, boundCount - 1)) return BAD;
    if (boundCount >= bounds.length) return FULL;
    set(bounds, boundCount, bound);
    boundCount++;
    return boundCount;
  }

  public int heard(int word) {
    if (word < 0 || word > bounds.length) return BAD;
    int many = 0;
    for (int i = 0; i < ledHands; i++) {
      Deal deal = dealAt(i);
      if (deal != null && wordOf(deal.t) == word) many++;
    }
    return many;
  }

  public int hides() {
    int sum = 0;
    for (int i = 0; i < ledHands; i++) {
      Deal deal = dealAt(i);
      if (deal != null) sum += deal.points - deal.plainPoints;
    }
    return sum;
  }

  public int undo() {
    if (changes.done == 0) return STATE;
    changes.done--;
    becomes(changes.whatAt(changes.done), changes.wasAt(changes.done));
    return changes.done;
  }

  public int redo() {
    if (changes.done >= changes.size) return STATE;
    becomes(changes.whatAt(changes.done), changes.nowAt(changes.done));
    changes.done++;
    return changes.size - changes.done;
  }

  // ---- acts, shelves

  public int act(int player, int act, int x) {
    Body body = bodyAt(player);
    acts.ran = 0;
    if (body == null || act < 0 || act > 3) return 0;
    return acts.begin(body.kind, player, act, x);
  }

  public int trace(int i) {
    return i >= 0 && i < acts.ran && i < Acts.KEPT ? at(acts.kept, i) : BAD;
  }

  public int keep(int shelf, int player) {
    Shelf to = shelfAt(shelf);
    if (to == null || player != -1 && bodyAt(player) == null) return BAD;
    if (player == -1) to.clear();
    else to.hold(player);
    return 1;
  }

  public int lay(int shelf, int sort, int n) {
    Shelf to = shelfAt(shelf);
    if (to == null || sort < 0 || sort >= SORTS || n > PLACES) return BAD;
    if (n < 0) return NO_SIZE;
    to.layRow(sort, n);
    return 1;
  }

  public int put(int shelf, int i, long v) {
    Shelf to = shelfAt(shelf);
    if (to == null) return BAD;
    int refusal = to.refusalAt(i);
    if (refusal == 0) to.cellBecomes(i, v);
    return refusal == 0 ? 1 : refusal;
  }

  public long element(int shelf, int i) {
    Shelf from = shelfAt(shelf);
    return from != null && from.refusalAt(i) == 0 ? from.cell(i) : Long.MIN_VALUE;
  }

  public int shift(int shelf, int i, int other, int j, int n) {
    Shelf from = shelfAt(shelf), to = shelfAt(other);
    if (from == null || to == null) return BAD;
    if (from.isEmpty() || to.isEmpty()) return NOTHING_THERE;
    if (!from.holdsRow(from.sort) || !to.holdsRow(from.sort)) return OTHER_KIND;
    if (!from.hasStretch(i, n) || !to.hasStretch(j, n)) return NO_PLACE;
    to.takeCells(from, i, j, n);
    return n;
  }

  public int taken(int shelf, int k) {
    Shelf from = shelfAt(shelf);
    if (from == null || k < 0 || k >= KINDS) return BAD;
    if (from.isEmpty()) return NOTHING_THERE;
    Body body = from.holdsPlayer() ? bodyAt(from.player) : null;
    return body != null && isUnder(body.kind, k) ? body.kind : OTHER_KIND;
  }

  public int count(int what) {
    switch (what) {
      case 0: return players;
      case 1: return reader.length;
      case 2: return lumps.count;
      case 3: return boundCount;
      case 4: return changes.done;
      case 5: return acts.ran;
      default: return BAD;
    }
  }

  // ---- what the calls share

  private static int at(int[] row, int i) {
    return row != null && i >= 0 && i < row.length ? row[i] : 0;
  }

  private static void set(int[] row, int i, int v) {
    if (row != null && i >= 0 && i < row.length) row[i] = v;
  }

  private static int held(int v, int least, int most) {
    return v < least ? least : v > most ? most : v;
  }

  /** A hand is told as its TOTAL, 1000 more where it is SOFT; 0 is a hand without cards. */
  private static int withCard(int hand, int v) {
    boolean soft = hand >= SOFT;
    int sum = (soft ? hand - SOFT - 10 : hand) + v;
    return (soft || v == ACE) && sum <= 11 ? SOFT + 10 + sum : sum;
  }

  private static int totalOf(int hand) {
    return hand >= SOFT ? hand - SOFT : hand;
  }

  private static int leastOfRule(int which) {
    return which == PAYS ? 100 : which == STANDS ? 15 : 0;
  }

  private static int mostOfRule(int which) {
    return which == PAYS ? 200 : which == STANDS ? 19 : 1;
  }

  private static int firstOfRule(int which) {
    return which == PAYS ? 150 : which == STANDS ? 17 : which == MAY_DOUBLE ? 1 : 0;
  }

  private static int kindAbove(int kind) {
    switch (kind) {
      case 2: return 1;
      case SIDE:
      case SIGNALLING: return 2;
      case FEIGNED: return BIG;
      case 1:
      case BIG:
      case 6: return 0;
      default: return -1;
    }
  }

  private static boolean isUnder(int kind, int top) {
    int k = kind;
    for (int i = 0; i < KINDS && k >= 0; i++) {
      if (k == top) return true;
      k = kindAbove(k);
    }
    return false;
  }

  private static boolean isLine(int total, int d) {
    boolean hard = total >= 4 && total <= TWENTY_ONE;
    boolean soft = total >= SOFT + 12 && total <= SOFT + TWENTY_ONE;
    return (hard || soft) && d >= ACE && d <= VALUES;
  }

  private static boolean isPile(int n) {
    return n >= 2 && n <= 416;
  }

  private Body bodyAt(int i) {
    return i >= 0 && i < players && i < bodies.length ? bodies[i] : null;
  }

  private Deal dealAt(int i) {
    return i >= 0 && i < ledHands && i < deals.length ? deals[i] : null;
  }

  private Shelf shelfAt(int i) {
    return i >= 0 && i < shelves.length ? shelves[i] : null;
  }

  private boolean oddsAreOfNow() {
    table.copyLeft(askedLeft);
    return odds.load(askedLeft, game.rules);
  }

  /** One pack does for any SHOE: the ODDS of a whole one are the same for all PACKS. */
  private boolean oddsAreOfWhole() {
    for (int v = ACE; v <= VALUES; v++) set(askedLeft, v, v == TEN ? 16 : 4);
    return odds.load(askedLeft, game.rules);
  }

  private boolean mayPlay(Body body) {
    return body.purse >= 100 && body.points < limitNow;
  }

  private void textBecomes(int use) {
    Text text = game.textOf(use);
    if (text == null) return;
    text.takeOver(reader.code, reader.size);
    if (use == OF_TAGS) game.fillTags();
  }

  private void becomes(int what, int v) {
    if (what < RULES) set(game.rules, what, v);
    else if (what == LIMIT_CHANGED) limitNow = v;
    else {
      Body body = bodyAt(what - PURSE_CHANGED);
      if (body != null) body.purse = v;
    }
  }

  private int wordOf(int t) {
    int number = 0;
    for (int i = 0; i < boundCount; i++) {
      if (at(bounds, i) <= t) number++;
    }
    return number;
  }

  private static int agreement(Deal one, Deal other) {
    if (one == null || other == null) return 0;
    return Integer.compare(one.t, other.t) * Integer.compare(one.worth, other.worth);
  }

  /** What n HANDS bring at a CUT; they are played by copies, so that the table stays as it is. */
  private int trial(Body body, int n, int seed, int cut) {
    game.spareBody.becomeLike(body);
    game.spareShoe.packsBecome(table.packs);
    game.spareShoe.seedBecomes(seed);
    game.spareShoe.cutBecomes(cut);
    int brought = 0;
    for (int i = 0; i < n && mayPlay(game.spareBody); i++) {
      game.playOne(game.spareBody, game.spareShoe, game.spareDeal, false);
      brought += game.spareDeal.brought;
    }
    return brought;
  }

  /** The packs in their order, and what of them is gone and seen. */
  private static final class Shoe {
    private final int[] cards = new int[416];
    private final int[] seen = new int[VALUES + 1];
    private int packs = 6, cut = 75, seed, z;
    private int gone, seenInAll, counted;
    private boolean shuffleDue = true;

    int size() {
      return packs * 52;
    }

    int seedBecomes(int v) {
      int was = seed;
      seed = v;
      z = v;
      shuffleDue = true;
      return was;
    }

    int packsBecome(int v) {
      int was = packs;
      packs = v;
      forget();
      gone = 0;
      shuffleDue = true;
      return was;
    }

    int cutBecomes(int v) {
      int was = cut;
      cut = v;
      shuffleDue = true;
      return was;
    }

    int leftOf(int v) {
      if (v == 0) return size() - seenInAll;
      return (v == TEN ? 16 : 4) * packs - at(seen, v);
    }

    void copyLeft(int[] to) {
      for (int v = ACE; v <= VALUES; v++) set(to, v, leftOf(v));
    }

    int trueCount() {
      int left = packs * 52 - seenInAll;
      return left > 0 ? counted * 52 / left : 0;
    }

    void makeReady() {
      if (shuffleDue || gone >= size() * cut / 100) shuffle();
    }

    int take() {
      if (gone >= size()) return 0;
      gone++;
      return at(cards, gone - 1);
    }

    void see(int v, int tag) {
      set(seen, v, at(seen, v) + 1);
      seenInAll++;
      counted += tag;
    }

    private void forget() {
      for (int v = 0; v <= VALUES; v++) set(seen, v, 0);
      seenInAll = 0;
      counted = 0;
    }

    private void shuffle() {
      int place = 0;
      for (int v = ACE; v <= VALUES; v++) {
        int many = (v == TEN ? 16 : 4) * packs;
        for (int i = 0; i < many; i++) set(cards, place + i, v);
        place += many;
      }
      for (int i = size() - 1; i >= 1; i--) {
        z = z * 1103515245 + 12345;
        int j = (z >>> 8) % (i + 1);
        int card = at(cards, i);
        set(cards, i, at(cards, j));
        set(cards, j, card);
      }
      forget();
      gone = 1;
      shuffleDue = false;
    }
  }

  /** A PLAYER at the table. */
  private static final class Body {
    private int kind, purse, call, points, hands, betAhead;

    boolean seesCount() {
      return kind >= 2 && kind != 6;
    }

    boolean waitsForCall() {
      return kind == BIG || kind == FEIGNED;
    }

    /** Whether the first play of the HAND that comes is turned about. */
    boolean feignsNow() {
      return kind == FEIGNED && hands % 3 == 2;
    }

    void becomeLike(Body other) {
      kind = other.kind;
      purse = other.purse;
      call = other.call;
      points = other.points;
      hands = other.hands;
      betAhead = other.betAhead;
    }
  }

  /** One HAND: how it began, what came, what it brought. */
  private static final class Deal {
    private final int[] mine = new int[CARDS_A_HAND];
    private final int[] theirs = new int[CARDS_A_HAND];
    private final int[] playedHands = new int[CARDS_A_HAND];
    private final int[] playsMade = new int[CARDS_A_HAND];
    private final int[] left = new int[VALUES + 1];
    private int mineCount, theirCount, myHand, theirHand;
    private int bet, brought, plays, points, plainPoints;
    private int c, t, worth;
    private boolean doubled, misdealt, strayed;

    void begin(Shoe from) {
      mineCount = 0;
      theirCount = 0;
      myHand = 0;
      theirHand = 0;
      brought = 0;
      plays = 0;
      points = 0;
      plainPoints = 0;
      doubled = false;
      misdealt = false;
      strayed = false;
      from.copyLeft(left);
      c = from.counted;
      t = from.trueCount();
    }

    void addMine(int v) {
      set(mine, mineCount, v);
      mineCount++;
      myHand = withCard(myHand, v);
    }

    void addTheirs(int v) {
      set(theirs, theirCount, v);
      theirCount++;
      theirHand = withCard(theirHand, v);
    }

    void addPlay(int play) {
      set(playedHands, plays, myHand);
      set(playsMade, plays, play);
      plays++;
    }

    boolean iHaveNatural() {
      return mineCount == 2 && totalOf(myHand) == TWENTY_ONE;
    }

    boolean theyHaveNatural() {
      return theirCount == 2 && totalOf(theirHand) == TWENTY_ONE;
    }

    boolean iAmAbove() {
      return totalOf(myHand) > TWENTY_ONE;
    }

    /** What a whole HAND brings, of which no card was wanting. */
    int outcome(int pays) {
      boolean mineIs = iHaveNatural(), theirsIs = theyHaveNatural();
      if (mineIs || theirsIs) return mineIs == theirsIs ? 0 : mineIs ? bet * pays : -bet * 100;
      int stake = bet * (doubled ? 200 : 100);
      int my = totalOf(myHand), their = totalOf(theirHand);
      if (my > TWENTY_ONE) return -stake;
      if (their > TWENTY_ONE || their < my) return stake;
      return their == my ? 0 : -stake;
    }

    int told(int what) {
      switch (what) {
        case 0: return bet;
        case 1: return brought;
        case 2: return mineCount;
        case 3: return theirCount;
        case 4: return plays;
        case 5: return t;
        case 6: return points;
        case 7: return misdealt ? 1 : 0;
        case 8: return strayed ? 1 : 0;
        default: return cardTold(what);
      }
    }

    private int cardTold(int what) {
      if (what >= 10 && what < 30) return what - 10 < mineCount ? at(mine, what - 10) : VOID;
      if (what >= 30 && what < 50) return what - 30 < theirCount ? at(theirs, what - 30) : VOID;
      return VOID;
    }
  }

  /** Plays HANDS by the RULES and TEXTS, from a SHOE or from a ROW. */
  private static final class Game {
    private static final int MOST_PLAYS = 40;

    private final int[] rules = new int[RULES];
    private final int[] tags = new int[VALUES + 1];
    private final Text plays = new Text(), tagging = new Text(), bets = new Text(), watches = new Text();
    private final int[] names = new int[Text.NAMES_IN_ALL];
    private final Odds judge = new Odds();
    private final Shoe spareShoe = new Shoe();
    private final Body spareBody = new Body();
    private final Deal spareDeal = new Deal();
    private Shoe from = spareShoe;
    private Body who = spareBody;
    private Deal deal = spareDeal;
    private Shelf row;
    private int place;

    Game() {
      for (int i = 0; i < RULES; i++) set(rules, i, firstOfRule(i));
    }

    Text textOf(int use) {
      switch (use) {
        case OF_PLAY: return plays;
        case OF_TAGS: return tagging;
        case OF_BETS: return bets;
        case OF_WATCHES: return watches;
        default: return null;
      }
    }

    void fillTags() {
      for (int v = ACE; v <= VALUES; v++) {
        Text.clear(names);
        set(names, Text.V, v);
        set(tags, v, held(tagging.valueBy(names), -9, 9));
      }
    }

    /** Of a HAND that is not LED w is worked out only where the points hang on it. */
    void playOne(Body body, Shoe shoe, Deal to, boolean willBeLed) {
      shoe.makeReady();
      sit(body, shoe, null, to);
      to.begin(shoe);
      to.bet = betNow();
      boolean whole = cardsCome() && playerPlays(body.feignsNow()) && dealerPlays();
      if (whole) {
        shoe.see(at(to.theirs, 1), tagOf(at(to.theirs, 1)));
        to.brought = to.outcome(at(rules, PAYS));
      } else {
        to.misdealt = true;
        shoe.shuffleDue = true;
      }
      if (to.plays > 0 && (willBeLed || watches.mentions(Text.W))) {
        judge.load(to.left, rules);
        judge.face(at(to.theirs, 0));
        to.strayed = strays();
      }
      to.plainPoints = pointsWith(0);
      to.points = to.strayed ? pointsWith(1) : to.plainPoints;
      bring();
    }

    /** Whether no card was wanting; what it brought stands in spareDeal. */
    boolean playFromRow(Body body, Shoe shoe, Shelf cards, int start) {
      sit(body, shoe, cards, spareDeal);
      place = start;
      spareDeal.begin(shoe);
      spareDeal.bet = 1;
      boolean whole = cardsCome() && playerPlays(false) && dealerPlays();
      if (whole) spareDeal.brought = spareDeal.outcome(at(rules, PAYS));
      return whole;
    }

    private void sit(Body body, Shoe shoe, Shelf cards, Deal to) {
      who = body;
      from = shoe;
      row = cards;
      deal = to;
    }

    private int tagOf(int v) {
      return at(tags, v);
    }

    /** The next card, or 0 where none is to be had. */
    private int next(boolean open) {
      if (row != null) {
        int v = row.valueAt(place);
        if (v != 0) place++;
        return v;
      }
      int v = from.take();
      if (v != 0 && open) from.see(v, tagOf(v));
      return v;
    }

    private boolean giveMine() {
      int v = next(true);
      if (v != 0) deal.addMine(v);
      return v != 0;
    }

    private boolean giveTheirs(boolean open) {
      int v = next(open);
      if (v != 0) deal.addTheirs(v);
      return v != 0;
    }

    private boolean cardsCome() {
      return giveMine() && giveTheirs(true) && giveMine() && giveTheirs(false);
    }

    private boolean playerPlays(boolean turned) {
      if (deal.iHaveNatural() || deal.theyHaveNatural()) return true;
      for (int i = 0; i < MOST_PLAYS && totalOf(deal.myHand) < TWENTY_ONE; i++) {
        int play = asMade(askPlay(), turned && i == 0);
        deal.addPlay(play);
        deal.doubled = play == DOUBLE;
        if (play == STAND) return true;
        if (!giveMine()) return false;
        if (play == DOUBLE) return true;
      }
      return true;
    }

    private int asMade(int asked, boolean turned) {
      boolean draws = asked == DRAW || asked == DOUBLE;
      if (turned) return draws ? STAND : DRAW;
      if (!draws) return STAND;
      return asked == DOUBLE && deal.mineCount == 2 && at(rules, MAY_DOUBLE) == 1 ? DOUBLE : DRAW;
    }

    private boolean dealerPlays() {
      if (deal.iHaveNatural() || deal.theyHaveNatural() || deal.iAmAbove()) return true;
      for (int i = 0; i < MOST_PLAYS && Odds.dealerDraws(deal.theirHand, rules); i++) {
        if (!giveTheirs(true)) return false;
      }
      return true;
    }

    private int askPlay() {
      if (plays.size == 0) return totalOf(deal.myHand) < 17 ? DRAW : STAND;
      Text.clear(names);
      set(names, Text.P, totalOf(deal.myHand));
      set(names, Text.A, deal.myHand >= SOFT ? 1 : 0);
      set(names, Text.D, at(deal.theirs, 0));
      set(names, Text.N, deal.mineCount);
      nameWhatIsSeen();
      return plays.valueBy(names);
    }

    private int betNow() {
      int units = who.purse / 100;
      int wish = who.kind == SIGNALLING ? 1 : betByText(units);
      if (who.waitsForCall() && from.trueCount() < who.call) wish = 0;
      return wish < units ? wish : units;
    }

    private int betByText(int units) {
      if (bets.size == 0) return 1;
      Text.clear(names);
      set(names, Text.B, units);
      nameWhatIsSeen();
      return held(bets.valueBy(names), 1, 99);
    }

    private void nameWhatIsSeen() {
      if (who.seesCount()) {
        set(names, Text.C, from.counted);
        set(names, Text.T, from.trueCount());
      }
      if (who.kind == SIDE) set(names, Text.S, from.leftOf(ACE));
    }

    /** Whether some play was another one than BEST by what was LEFT as the HAND began. */
    private boolean strays() {
      boolean strayed = false;
      for (int i = 0; i < deal.plays && !strayed; i++) {
        strayed = at(deal.playsMade, i) != judge.bestPlay(at(deal.playedHands, i), i == 0);
      }
      return strayed;
    }

    private int pointsWith(int strayed) {
      if (watches.size == 0) return 0;
      Text.clear(names);
      set(names, Text.B, deal.bet);
      set(names, Text.L, who.betAhead);
      set(names, Text.W, strayed);
      set(names, Text.R, deal.brought / 100);
      set(names, Text.C, deal.c);
      set(names, Text.T, deal.t);
      return held(watches.valueBy(names), 0, MOST_POINTS);
    }

    private void bring() {
      who.purse = held(who.purse + deal.brought, 0, MOST_PURSE);
      who.points += deal.points;
      who.betAhead = deal.bet;
      who.hands++;
    }
  }

  /** What is to be had by what is LEFT, each draw as if nothing went with it; in millionths. */
  private static final class Odds {
    private static final int ONE = 1000000, ABOVE = 22, FIRST_END = 15, ENDS = 8, NATURAL = 23;
    /** Hands stand at places of rows: hard ones at their TOTAL (ABOVE for all above 21), soft ones behind. */
    private static final int WIDE = 64, SOFT_PLACES = 32;

    private final int[] have = new int[VALUES + 1];
    private final int[] rules = new int[RULES];
    private final int[] after = new int[WIDE * (VALUES + 1)];
    private final int[] ends = new int[ENDS * WIDE];
    private final int[] open = new int[ENDS + 1];
    private final int[] stood = new int[WIDE];
    private final int[] drawn = new int[WIDE];
    private final int[] doubled = new int[WIDE];
    private final int[] best = new int[(VALUES + 1) * WIDE];
    private final int[] naturals = new int[VALUES + 1];
    private int all;

    Odds() {
      for (int sum = 0; sum <= TWENTY_ONE; sum++) {
        for (int v = ACE; v <= VALUES; v++) {
          set(after, sum * (VALUES + 1) + v, placeOf(withCard(sum, v)));
          int soft = SOFT + 10 + sum;
          if (sum <= 11) set(after, placeOf(soft) * (VALUES + 1) + v, placeOf(withCard(soft, v)));
        }
      }
    }

    static boolean dealerDraws(int hand, int[] rules) {
      int total = totalOf(hand), stands = at(rules, STANDS);
      return total < stands || total == stands && hand >= SOFT && at(rules, SOFT_STANDS) == 1;
    }

    /** Whether there is a card left to ask about. */
    boolean load(int[] left, int[] byRules) {
      all = 0;
      for (int v = ACE; v <= VALUES; v++) {
        set(have, v, at(left, v));
        all += at(left, v);
      }
      for (int i = 0; i < RULES; i++) set(rules, i, at(byRules, i));
      for (int sum = TWENTY_ONE + 1; sum >= 1; sum--) {
        fillEnds(sum);
        if (sum <= 11) fillEnds(SOFT + 10 + sum);
      }
      return all > 0;
    }

    /** All that is asked against the dealer's open VALUE is made ready. */
    void face(int d) {
      for (int end = FIRST_END; end <= ABOVE; end++) set(open, end - FIRST_END, openEnd(d, end));
      int many = d == ACE ? at(have, TEN) : d == TEN ? at(have, ACE) : 0;
      set(open, NATURAL - FIRST_END, byAll(many * ONE));
      for (int total = 1; total <= ABOVE; total++) {
        set(stood, total, standing(total));
        set(stood, SOFT_PLACES + total, at(stood, total));
      }
      for (int sum = TWENTY_ONE; sum >= 1; sum--) {
        fillDraws(sum);
        if (sum <= 11) fillDraws(SOFT_PLACES + 10 + sum);
      }
    }

    int endFromOpen(int end) {
      return at(open, end - FIRST_END);
    }

    int worthOf(int hand, int play) {
      int[] row = play == STAND ? stood : play == DRAW ? drawn : doubled;
      return at(row, placeOf(hand));
    }

    /** The greatest; of like ones the least. */
    int bestPlay(int hand, boolean two) {
      int i = placeOf(hand), play = STAND, most = at(stood, i);
      if (at(drawn, i) > most) {
        play = DRAW;
        most = at(drawn, i);
      }
      return two && at(rules, MAY_DOUBLE) == 1 && at(doubled, i) > most ? DOUBLE : play;
    }

    int lineWorth(int hand) {
      int play = bestPlay(hand, true);
      int next = worthOf(hand, play == STAND ? DRAW : STAND);
      if (play == DOUBLE) next = Math.max(next, worthOf(hand, DRAW));
      else if (at(rules, MAY_DOUBLE) == 1) next = Math.max(next, worthOf(hand, DOUBLE));
      return worthOf(hand, play) - next;
    }

    /** WORTH of a HAND: over the player's two VALUES and the dealer's open one. */
    int handWorth() {
      for (int d = ACE; d <= VALUES; d++) fillBest(d);
      long sum = 0;
      for (int x = ACE; x <= VALUES; x++) sum += (long) at(have, x) * worthFrom(x);
      return (int) longByAll(sum);
    }

    private long worthFrom(int x) {
      long sum = 0;
      for (int y = ACE; y <= VALUES; y++) {
        sum += (long) at(have, y) * worthFromTwo(withCard(withCard(0, x), y));
      }
      return longByAll(sum);
    }

    private long worthFromTwo(int hand) {
      long sum = 0;
      for (int d = ACE; d <= VALUES; d++) sum += at(have, d) * worthAgainst(hand, d);
      return longByAll(sum);
    }

    private long worthAgainst(int hand, int d) {
      int natural = at(naturals, d);
      if (totalOf(hand) == TWENTY_ONE) return (long) at(rules, PAYS) * (ONE - natural) / 100;
      return at(best, d * WIDE + placeOf(hand)) - natural;
    }

    private void fillBest(int d) {
      face(d);
      set(naturals, d, endFromOpen(NATURAL));
      for (int total = 4; total <= 20; total++) {
        setBest(d, total);
        if (total >= 12) setBest(d, SOFT + total);
      }
    }

    private void setBest(int d, int hand) {
      set(best, d * WIDE + placeOf(hand), worthOf(hand, bestPlay(hand, true)));
    }

    private int byAll(int sum) {
      return all > 0 ? sum / all : 0;
    }

    private long longByAll(long sum) {
      return all > 0 ? sum / all : 0;
    }

    private static int placeOf(int hand) {
      if (hand >= SOFT) return hand - SOFT + SOFT_PLACES;
      return hand > ABOVE ? ABOVE : hand;
    }

    /** What a hand becomes has a greater sum of VALUES, so it has been filled before. */
    private void fillEnds(int hand) {
      boolean draws = dealerDraws(hand, rules);
      int i = placeOf(hand), total = totalOf(hand);
      for (int end = FIRST_END; end <= ABOVE; end++) {
        int base = (end - FIRST_END) * WIDE;
        set(ends, base + i, draws ? sumOver(ends, base, i) : total == end ? ONE : 0);
      }
    }

    /** The sum over VALUES of what stands in a row, from base on, at what the hand at a place becomes. */
    private int sumOver(int[] row, int base, int i) {
      int sum = 0;
      for (int v = ACE; v <= VALUES; v++) sum += at(have, v) * at(row, base + at(after, i * (VALUES + 1) + v));
      return byAll(sum);
    }

    private int openEnd(int d, int end) {
      int first = withCard(0, d), sum = 0;
      for (int v = ACE; v <= VALUES; v++) {
        int hand = withCard(first, v);
        boolean natural = totalOf(hand) == TWENTY_ONE;
        if (!natural) sum += at(have, v) * at(ends, (end - FIRST_END) * WIDE + placeOf(hand));
      }
      return byAll(sum);
    }

    private int standing(int total) {
      int worth = 0;
      for (int end = FIRST_END; end <= ABOVE; end++) {
        int share = endFromOpen(end);
        if (total > TWENTY_ONE) worth -= share;
        else if (end == ABOVE || end < total) worth += share;
        else if (end > total) worth -= share;
      }
      return worth;
    }

    private void fillDraws(int i) {
      int sum = 0;
      for (int v = ACE; v <= VALUES; v++) sum += at(have, v) * drawnTo(at(after, i * (VALUES + 1) + v));
      set(drawn, i, byAll(sum));
      set(doubled, i, 2 * sumOver(stood, 0, i));
    }

    private int drawnTo(int i) {
      boolean isDone = i >= TWENTY_ONE && i <= ABOVE || i == SOFT_PLACES + TWENTY_ONE;
      return isDone ? at(stood, i) : Math.max(at(stood, i), at(drawn, i));
    }
  }

  /** A TEXT as numbers, names and signs behind what they join; size 0: there is none. */
  private static final class Text {
    private static final int P = 0, A = 1, D = 2, N = 3, V = 4, B = 5, L = 6, W = 7, R = 8, C = 9, T = 10, S = 11;
    private static final int NAMES_IN_ALL = 12, LONGEST = 128;
    /** A code from 0 on is a number, from FIRST_NAME on up to LAST_NAME a name, and below that a sign. */
    private static final int FIRST_NAME = -1, LAST_NAME = -12, SIGN = -1000;
    private static final int MINUS_AHEAD = SIGN - 1, NOT_AHEAD = SIGN - 2, IF = SIGN - '?', LINE_END = SIGN - ';';

    private final int[] code = new int[LONGEST];
    private final int[] stack = new int[LONGEST];
    private int size, top;

    static void clear(int[] names) {
      for (int i = 0; i < NAMES_IN_ALL; i++) set(names, i, 0);
    }

    void takeOver(int[] from, int many) {
      for (int i = 0; i < many; i++) set(code, i, at(from, i));
      size = many;
    }

    boolean mentions(int name) {
      for (int i = 0; i < size; i++) {
        if (at(code, i) == FIRST_NAME - name) return true;
      }
      return false;
    }

    /** The first LINE that counts; of one that does not, the rest is passed over. */
    int valueBy(int[] names) {
      boolean passing = false;
      top = 0;
      for (int i = 0; i < size; i++) {
        int op = at(code, i);
        if (op == LINE_END) {
          if (!passing) return pop();
          passing = false;
        } else if (op == IF) passing = pop() == 0;
        else if (!passing) work(op, names);
      }
      return 0;
    }

    private void work(int op, int[] names) {
      if (op >= 0) push(op);
      else if (op >= LAST_NAME) push(at(names, FIRST_NAME - op));
      else if (op == MINUS_AHEAD) push(-pop());
      else if (op == NOT_AHEAD) push(pop() == 0 ? 1 : 0);
      else {
        int second = pop();
        push(joined(pop(), SIGN - op, second));
      }
    }

    private void push(int v) {
      if (top >= stack.length) return;
      stack[top] = v;
      top++;
    }

    private int pop() {
      if (top <= 0) return 0;
      top--;
      return stack[top];
    }

    private static int joined(int a, int sign, int b) {
      switch (sign) {
        case '|': return a != 0 || b != 0 ? 1 : 0;
        case '&': return a != 0 && b != 0 ? 1 : 0;
        case '<': return a < b ? 1 : 0;
        case '=': return a == b ? 1 : 0;
        case '>': return a > b ? 1 : 0;
        case '+': return a + b;
        case '-': return a - b;
        case '*': return a * b;
        case '/': return b == 0 ? 0 : a / b;
        case '%': return b == 0 ? 0 : a % b;
        default: return 0;
      }
    }
  }

  /** THE TAPE, and the reading of a TEXT from it. */
  private static final class Reader {
    private static final String NAMES = "padnvblwrcts";
    private static final int MOST_OPEN = 6, COMPARED = 2, ONES = 5;

    private final int[] bytes = new int[TAPE];
    private final int[] code = new int[Text.LONGEST];
    private int length, place, size;

    boolean takeIn(int n, int v) {
      if (length + n > TAPE) return false;
      for (int i = 0; i < n; i++) set(bytes, length + i, v >>> 8 * i & 255);
      length += n;
      return true;
    }

    /** Whether THE TAPE is a TEXT; if not, place is where it goes wrong. */
    boolean readText() {
      place = 0;
      size = 0;
      for (int i = 0; i <= TAPE; i++) {
        if (!readLine()) return false;
        if (place >= length) return true;
        if (sign() != ';') return false;
        place++;
      }
      return false;
    }

    private boolean readLine() {
      if (!read(0, 0)) return false;
      if (sign() == '?') {
        place++;
        emit(Text.IF);
        if (!read(0, 0)) return false;
      }
      emit(Text.LINE_END);
      return true;
    }

    /** Reads E (level 0), A, B, S, P or O (level 5); open never goes above MOST_OPEN, which bounds the depth. */
    private boolean read(int level, int open) {
      if (level >= ONES) return readOne(open);
      if (!read(level + 1, open)) return false;
      int most = level == COMPARED ? 1 : TAPE;
      for (int i = 0; i < most; i++) {
        int sign = sign();
        if (!joins(sign, level)) return true;
        place++;
        if (!read(level + 1, open)) return false;
        emit(Text.SIGN - sign);
      }
      return true;
    }

    private boolean readOne(int open) {
      int sign = sign();
      if (isDigit(sign)) return readNumber();
      if (sign >= 0 && NAMES.indexOf((char) sign) >= 0) {
        emit(Text.FIRST_NAME - NAMES.indexOf((char) sign));
        place++;
        return true;
      }
      if (open >= MOST_OPEN || sign != '(' && sign != '!' && sign != '-') return false;
      place++;
      if (sign == '(') return readInside(open + 1);
      if (!readOne(open + 1)) return false;
      emit(sign == '-' ? Text.MINUS_AHEAD : Text.NOT_AHEAD);
      return true;
    }

    private boolean readInside(int open) {
      if (!read(0, open) || sign() != ')') return false;
      place++;
      return true;
    }

    private boolean readNumber() {
      int number = 0;
      for (int i = 0; i < 4 && isDigit(sign()); i++) {
        number = number * 10 + sign() - '0';
        place++;
      }
      emit(number);
      return true;
    }

    /** The byte at the place, or -1 behind the last one. */
    private int sign() {
      return place < length ? at(bytes, place) : -1;
    }

    private static boolean isDigit(int sign) {
      return sign >= '0' && sign <= '9';
    }

    private static boolean joins(int sign, int level) {
      switch (level) {
        case 0: return sign == '|';
        case 1: return sign == '&';
        case COMPARED: return sign == '<' || sign == '=' || sign == '>';
        case 3: return sign == '+' || sign == '-';
        default: return sign == '*' || sign == '/' || sign == '%';
      }
    }

    private void emit(int op) {
      set(code, size, op);
      size++;
    }
  }

  /** What was told, to be UNDONE and DONE AGAIN: a rule (0 .. 3), LIMIT, or PURSE_CHANGED and the player. */
  private static final class Changes {
    private static final int KEPT = 40;

    private final int[] what = new int[KEPT];
    private final int[] was = new int[KEPT];
    private final int[] now = new int[KEPT];
    private int done, size;

    void come(int which, int before, int after) {
      if (done >= KEPT) dropEldest();
      set(what, done, which);
      set(was, done, before);
      set(now, done, after);
      done++;
      size = done;
    }

    int whatAt(int i) {
      return at(what, i);
    }

    int wasAt(int i) {
      return at(was, i);
    }

    int nowAt(int i) {
      return at(now, i);
    }

    private void dropEldest() {
      for (int i = 1; i < KEPT; i++) {
        set(what, i - 1, at(what, i));
        set(was, i - 1, at(was, i));
        set(now, i - 1, at(now, i));
      }
      done = KEPT - 1;
    }
  }

  /** The steps of a told SHUFFLE. */
  private static final class Lumps {
    private final int[] steps = new int[12];
    private int count;

    boolean come(int v) {
      if (count >= steps.length) return false;
      set(steps, count, v);
      count++;
      return true;
    }

    int placeOf(int n, int place) {
      int now = place;
      for (int i = 0; i < count; i++) {
        int step = at(steps, i);
        now = step < 10 ? riffled(n, now, step) : lifted(n, now, step - 10);
      }
      return now;
    }

    int span(int n, int a, int b) {
      int least = n, most = 0;
      for (int card = a; card <= b; card++) {
        int now = placeOf(n, card);
        least = Math.min(least, now);
        most = Math.max(most, now);
      }
      return most - least;
    }

    private static int riffled(int n, int place, int piece) {
      if (piece < 1) return place;
      int first = (n + 1) / 2;
      if (place < first) return place + Math.min(place / piece * piece, n - first);
      int inSecond = place - first;
      return inSecond + Math.min((inSecond / piece + 1) * piece, first);
    }

    private static int lifted(int n, int place, int piece) {
      int many = Math.min(piece, n);
      return place < many ? place + n - many : place - many;
    }
  }

  /** The ACTS of a PLAYER, and THE TRACE of the bodies that ran. */
  private static final class Acts {
    private static final int KEPT = 24, DEEPEST = 40;
    private static final int PLAYS = 0, COUNTS = 1, BETS = 2, TELLS = 3;

    private final int[] kept = new int[KEPT];
    private int ran, self, number;

    int begin(int kind, int player, int act, int x) {
      self = kind;
      number = player;
      ran = 0;
      return from(kind, act, x, 0);
    }

    /** The act from a KIND on upwards; DEEPEST stands above what any KIND needs. */
    private int from(int kind, int act, int x, int depth) {
      int holder = holderOf(kind, act);
      if (holder < 0 || depth > DEEPEST) return 0;
      int body = bodyOf(holder, act), up = kindAbove(holder), on = depth + 1;
      set(kept, ran, body);
      ran++;
      switch (body) {
        case 1: return x + number;
        case 2: return tellsOf(x, on);
        case 10: return from(self, PLAYS, x, on) * 2;
        case 11: return x ^ number;
        case 20: return from(up, COUNTS, x, on) + 3;
        case 30: return from(up, BETS, x, on) * 3;
        case 40: return from(up, PLAYS, x, on) - 1;
        case 50: return signalledBet(from(up, BETS, x, on), on);
        case 60: return -from(up, COUNTS, x, on);
        case 61: return from(up, TELLS, x, on) ^ 5;
        case 70: return from(up, PLAYS, x + 1, on);
        case 80: return feignedCount(from(up, COUNTS, x, on), on);
        case 81: return from(up, TELLS, x, on) * 2;
        default: return 0;
      }
    }

    private int tellsOf(int x, int depth) {
      int counted = from(self, COUNTS, x, depth);
      return counted - from(self, BETS, 1, depth);
    }

    private int signalledBet(int above, int depth) {
      return above - from(self, PLAYS, 2, depth);
    }

    private int feignedCount(int above, int depth) {
      return above + from(self, BETS, 2, depth);
    }

    private static int holderOf(int kind, int act) {
      int k = kind;
      for (int i = 0; i < KINDS && k >= 0; i++) {
        if (bodyOf(k, act) != 0) return k;
        k = kindAbove(k);
      }
      return -1;
    }

    /** The body that a KIND itself has of an act, 0 where it has none. */
    private static int bodyOf(int kind, int act) {
      switch (kind * 4 + act) {
        case 0: return 1;
        case 1: return 10;
        case 2: return 11;
        case 3: return 2;
        case 4 + COUNTS: return 20;
        case 8 + BETS: return 30;
        case 12 + PLAYS: return 40;
        case 16 + BETS: return 50;
        case 20 + COUNTS: return 60;
        case 20 + TELLS: return 61;
        case 24 + PLAYS: return 70;
        case 28 + COUNTS: return 80;
        case 28 + TELLS: return 81;
        default: return 0;
      }
    }
  }

  /** What a SHELF holds. */
  private static final class Shelf {
    private static final int NONE = 0, A_PLAYER = 1, A_ROW = 2;

    private final long[] cells = new long[PLACES];
    private int holds, sort, size, player;

    boolean isEmpty() {
      return holds == NONE;
    }

    boolean holdsPlayer() {
      return holds == A_PLAYER;
    }

    boolean holdsRow(int ofSort) {
      return holds == A_ROW && sort == ofSort;
    }

    void clear() {
      holds = NONE;
    }

    void hold(int who) {
      holds = A_PLAYER;
      player = who;
    }

    void layRow(int ofSort, int n) {
      holds = A_ROW;
      sort = ofSort;
      size = n;
      for (int i = 0; i < cells.length; i++) cells[i] = 0;
    }

    int refusalAt(int i) {
      if (holds == NONE) return NOTHING_THERE;
      if (holds != A_ROW) return OTHER_KIND;
      return i >= 0 && i < size ? 0 : NO_PLACE;
    }

    long cell(int i) {
      return i >= 0 && i < cells.length ? cells[i] : 0;
    }

    void cellBecomes(int i, long v) {
      if (i >= 0 && i < cells.length) cells[i] = lowestBits(v);
    }

    /** The VALUE of a card at a place of a ROW, 0 where there is none. */
    int valueAt(int i) {
      if (refusalAt(i) != 0) return 0;
      long v = cell(i);
      return v >= ACE && v <= VALUES ? (int) v : 0;
    }

    boolean hasStretch(int i, int n) {
      return n >= 0 && i >= 0 && i <= size && n <= size - i;
    }

    /** From the far end where the stretches may overlap so, that nothing is overwritten ahead of its reading. */
    void takeCells(Shelf from, int i, int j, int n) {
      if (i >= j) for (int k = 0; k < n; k++) cellBecomes(j + k, from.cell(i + k));
      else for (int k = n - 1; k >= 0; k--) cellBecomes(j + k, from.cell(i + k));
    }

    private long lowestBits(long v) {
      switch (sort) {
        case 0: return (byte) v;
        case 1: return (short) v;
        case 2: return (int) v;
        case BOOLEANS: return v != 0 ? 1 : 0;
        default: return v;
      }
    }
  }
}
