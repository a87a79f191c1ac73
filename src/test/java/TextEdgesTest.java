/** Section 2 of the document, TEXTS, at its edges; promises 5 to 7. */
public final class TextEdgesTest {
  private static final String NAMES = "padnvblwrcts", DIGITS = "0123456789", BEGIN = DIGITS + NAMES + "(!-";
  private static final String JOINS = "|&<=>+-*/%", LOOSE = "|&+-*/%";

  public static void main(String[] args) {
    tapeIsFull();
    bytesOfTheTape();
    textsOf120Bytes();
    tapeIsEmptyThen();
    bytesThatGoOn();
    endsTooEarly();
    digitsOfANumber();
    sixAreOpen();
    levels();
    wraps();
    towardZero();
    byZero();
    truths();
    linesThatCount();
    noLineCounts();
    heldTags();
    heldBets();
    heldPoints();
    withoutATextOfAUse();
    namesThatAreNotOfTheUse();
    namesOfPlay();
    namesOfBets();
    namesOfWatches();
    Due.end();
  }

  private static CardsGone with(int kind, int purse) {
    CardsGone x = new CardsGone();
    x.player(kind, purse, -99);
    return x;
  }

  /** "n (1 .. 4) bytes come to THE TAPE": 120 at most, and none of them where there is no room for all. */
  private static void tapeIsFull() {
    for (int n = 1; n <= 4; n++) {
      CardsGone x = new CardsGone();
      int bytes = 0;
      while (bytes + n <= 120) {
        bytes += n;
        Due.due("feed(" + n + ", 0)", x.feed(n, 0x30303030), bytes);
      }
      Due.due("count(1)", x.count(1), 120);
      for (int m = 1; m <= 4; m++) Due.due("feed(" + m + ", 0) onto 120", x.feed(m, 0), CardsGone.FULL);
    }
    for (int had = 116; had <= 119; had++) {
      CardsGone x = new CardsGone();
      for (int i = 0; i < had; i++) x.feed(1, '0');
      for (int n = 4; n > 120 - had; n--) Due.due("feed(" + n + ", 0) onto " + had, x.feed(n, 0), CardsGone.FULL);
      Due.due("count(1) behind what was FULL", x.count(1), had);
      Due.due("feed() of the rest", x.feed(120 - had, 0), 120);
    }
  }

  /** "the lowest of v first": of four bytes the highest is the sign's, and no more than n come. */
  private static void bytesOfTheTape() {
    CardsGone x = new CardsGone();
    x.feed(1, 'v' | '+' << 8 | '9' << 16 | '9' << 24);
    Due.due("the lowest byte alone", x.text(1), 1);
    Due.due("tag(3) of v", x.tag(3), 3);
    x.feed(3, 'v' | '-' << 8 | '2' << 16 | '9' << 24);
    Due.due("three bytes", x.text(1), 1);
    Due.due("tag(3) of v-2", x.tag(3), 1);
    x.feed(4, 'v' | '-' << 8 | '1' << 16 | '0' << 24);
    Due.due("four bytes", x.text(1), 1);
    Due.due("tag(3) of v-10", x.tag(3), -7);
    x.feed(2, 'v' | 0xff << 8);
    Due.due("a byte of 255", x.text(1), -101);
    x.feed(4, -1);
    Due.due("four of 255", x.text(1), -100);
    x.feed(2, 'v' | 0x80 << 8);
    Due.due("a byte of 128", x.text(1), -101);
    x.feed(2, 'v');
    Due.due("a byte of 0", x.text(1), -101);
  }

  /** "THE TAPE (at most 120 bytes)" */
  private static void textsOf120Bytes() {
    CardsGone x = new CardsGone();
    StringBuilder text = new StringBuilder();
    for (int i = 0; i < 59; i++) text.append("0+");
    Due.due("119 bytes", Due.textByFours(x, 1, text + "3"), 1);
    Due.due("their value", x.tag(1), 3);
    Due.due("120 bytes, the last a digit", Due.textByFours(x, 1, text + "07"), 1);
    Due.due("their value", x.tag(1), 7);
    Due.due("120 bytes, the last a +", Due.textByFours(x, 1, text + "0+"), -220);
    Due.due("120 bytes, the last no byte of a TEXT", Due.textByFours(x, 1, text + "0x"), -219);
    Due.due("the TEXT ahead of it stays", x.tag(1), 7);
    StringBuilder lines = new StringBuilder();
    for (int i = 0; i < 29; i++) lines.append("0?5;");
    Due.due("120 bytes of 30 LINES", Due.textByFours(x, 1, lines + "0?50"), 1);
    Due.due("none counts", x.tag(1), 0);
    Due.due("120 bytes of 30 LINES, the last counts", Due.textByFours(x, 1, lines + "1?-4"), 1);
    Due.due("its value", x.tag(1), -4);
    Due.due("120 bytes, the last a ?", Due.textByFours(x, 1, lines + "000?"), -220);
    Due.due("120 bytes, the last a ;", Due.textByFours(x, 1, lines + "000;"), -220);
  }

  /** "THE TAPE is empty then." - as it became a TEXT, and by a FAULT. */
  private static void tapeIsEmptyThen() {
    CardsGone x = new CardsGone();
    Due.due("text(1) of v", Due.text(x, 1, "v"), 1);
    Due.due("THE TAPE then", x.count(1), 0);
    Due.due("text(1) of v+", Due.text(x, 1, "v+"), -102);
    Due.due("THE TAPE behind a FAULT", x.count(1), 0);
    Due.due("a FAULT leaves the TEXT of that USE", x.tag(4), 4);
    Due.due("text(1) of nothing", x.text(1), -100);
    Due.due("that leaves it, too", x.tag(4), 4);
    x.feed(1, '7');
    Due.due("text(4)", x.text(4), CardsGone.BAD);
    Due.due("text(-1)", x.text(-1), CardsGone.BAD);
    Due.due("it stays", x.count(1), 1);
    Due.due("text(1) of what stayed", x.text(1), 1);
    Due.due("tag(4)", x.tag(4), 7);
    Due.due("a shorter TEXT instead of a longer one", Due.text(x, 1, "0?1;0?2;v"), 1);
    Due.due("tag(4)", x.tag(4), 4);
    Due.due("one byte", Due.text(x, 1, "2"), 1);
    Due.due("tag(4)", x.tag(4), 2);
    for (int use = 0; use <= 3; use++) Due.due("text(" + use + ") of 1", Due.text(x, use, "1"), 1);
  }

  /** "the place (from 0) of the first byte with which no TEXT goes on": all 256 bytes behind some beginnings. */
  private static void bytesThatGoOn() {
    goOn("", BEGIN);
    goOn("1", DIGITS + JOINS + "?;");
    goOn("12", DIGITS + JOINS + "?;");
    goOn("123", DIGITS + JOINS + "?;");
    goOn("1234", JOINS + "?;");
    goOn("p", JOINS + "?;");
    goOn("(1)", JOINS + "?;");
    goOn("(", BEGIN);
    goOn("(1", DIGITS + JOINS + ")");
    goOn("(p", JOINS + ")");
    goOn("((p)", JOINS + ")");
    goOn("!", BEGIN);
    goOn("-", BEGIN);
    goOn("!p", JOINS + "?;");
    for (char sign : JOINS.toCharArray()) goOn("p" + sign, BEGIN);
    for (char sign : "<=>".toCharArray()) {
      goOn("p" + sign + "p", LOOSE + "?;");
      goOn("(p" + sign + "p", LOOSE + ")");
      goOn("p" + sign + "p+p", LOOSE + "?;");
      goOn("p" + sign + "p*p", LOOSE + "?;");
      goOn("p" + sign + "(p", JOINS + ")");
      goOn("(p" + sign + "p)", JOINS + "?;");
      goOn("p" + sign + "p&p", JOINS + "?;");
      goOn("p" + sign + "p|p", JOINS + "?;");
      goOn("p" + sign + "p?p", JOINS + ";");
      goOn("p" + sign + "p;p", JOINS + "?;");
    }
    goOn("p?", BEGIN);
    goOn("p?p", JOINS + ";");
    goOn("p?1", DIGITS + JOINS + ";");
    goOn("p?(p", JOINS + ")");
    goOn("p;", BEGIN);
    goOn("p;p", JOINS + "?;");
    goOn("p?p;p", JOINS + "?;");
    goOn("p?p;p?p", JOINS + ";");
    for (String six : new String[] {"((((((", "!!!!!!", "------", "(!-(!-", "p-(-!(-!", "-----(", "(1+!!(-("}) goOn(six, DIGITS + NAMES);
    for (String five : new String[] {"(((((", "!!!!!", "-----", "p-(-!(-", "(1+!!(-1)+!!("}) goOn(five, BEGIN);
    goOn("(((((p)", JOINS + ")");
    goOn("((((((p)", JOINS + ")");
  }

  /** All bytes but these have their FAULT right behind the beginning. */
  private static void goOn(String beginning, String bytes) {
    CardsGone x = null;
    int calls = 1000;
    for (int b = 0; b < 256; b++) {
      if (calls > 400) {
        x = new CardsGone();
        calls = 0;
      }
      Due.feed(x, beginning);
      x.feed(1, b);
      calls += beginning.length() + 2;
      int fault = x.text(2);
      String name = beginning + " and the byte " + b;
      if (bytes.indexOf((char) b) < 0) Due.due(name, fault, -100 - beginning.length());
      else Due.isSo(name + " goes on", fault == 1 || fault == -100 - beginning.length() - 1);
    }
  }

  /** "the length, if it ends too early" */
  private static void endsTooEarly() {
    String[] texts = {"", "1+", "1-", "1*", "1/", "1%", "1<", "1=", "1>", "1&", "1|", "!", "-", "(", "(1", "(1+", "(1+2", "((1)", "1?", "1;",
        "1?2;", "1;2;", "1?2;3?", "p<12;", "!!!!!!", "((((((", "((((((1", "1?(", "1?-", "0?1;!"};
    CardsGone x = new CardsGone();
    for (String text : texts) Due.due("text() of " + text, Due.textByFours(x, 0, text), -100 - text.length());
  }

  /** "a number (1 to 4 digits)" */
  private static void digitsOfANumber() {
    CardsGone x = new CardsGone();
    String[] good = {"0", "9", "10", "99", "100", "999", "1000", "9999", "0000", "0009"};
    for (String text : good) Due.due("text() of " + text, Due.text(x, 1, text), 1);
    String[] five = {"00000", "12345", "99999", "10000"};
    for (String text : five) Due.due("text() of " + text, Due.text(x, 1, text), -104);
    Due.due("text() of 1+23456", Due.text(x, 1, "1+23456"), -106);
    Due.due("text() of 9999=9998+1", Due.text(x, 1, "9999=9998+1"), 1);
    Due.due("9999", x.tag(1), 1);
    Due.text(x, 1, "0012=12&0007=7&10=9+1&1234=1000+200+30+4");
    Due.due("each digit counts", x.tag(1), 1);
  }

  /** "At most 6 of ( ! - ahead of an O are open at once." */
  private static void sixAreOpen() {
    String[] good = {"((((((3))))))", "------3", "!!!!!!3", "!(-(!(3)))", "-((((-3))))", "(3)+(3)", "((((((3))))))+((((((3))))))", "------3-------3",
        "1-------3", "-(-(-3))-(-(-3))", "(-----3)", "-(3)?------3", "-----(3)+(-3)", "(((((3)+(3)))))", "!!!!!(3)"};
    CardsGone x = new CardsGone();
    for (String text : good) Due.due("text() of " + text, Due.textByFours(x, 1, text), 1);
    String[] bad = {"(((((((3)))))))", "-------3", "!!!!!!!3", "!(-(!(-3)))", "-((((--3))))", "------(3)", "!!!!!!(3)", "((((((-3))))))", "((((((!3))))))",
        "1--------3", "3?-------3", "3;(((((((3)))))))", "(((((3)+((!3))))))", "-(-(-(-3)))"};
    int[] faults = {6, 6, 6, 6, 6, 6, 6, 6, 6, 8, 8, 8, 10, 6};
    for (int i = 0; i < bad.length; i++) Due.due("text() of " + bad[i], Due.textByFours(x, 1, bad[i]), -100 - faults[i]);
    isWorth("-(-(-3))", -3);
    isWorth("!(-(!(3)))", 1);
    isWorth("((((((3))))))+------3", 6);
  }

  private static void isWorth(String text, int due) {
    CardsGone x = new CardsGone();
    Due.due("text(1) of " + text, Due.textByFours(x, 1, text), 1);
    Due.due("the value of " + text, x.tag(5), due);
  }

  /** E, A, B, S, P, O: what binds closer, and from the left. */
  private static void levels() {
    isWorth("1|0&0", 1);
    isWorth("0&0|1", 1);
    isWorth("0&1|1&1", 1);
    isWorth("(1|0)&0", 0);
    isWorth("2&1<1", 0);
    isWorth("1<1&2", 0);
    isWorth("1|2<1", 1);
    isWorth("1<1+1", 1);
    isWorth("1+1<1", 0);
    isWorth("2=1+1", 1);
    isWorth("3-1=2", 1);
    isWorth("1+2*3", 7);
    isWorth("2*3+1", 7);
    isWorth("9-2*3", 3);
    isWorth("9-4/2", 7);
    isWorth("9-5%3", 7);
    isWorth("9-3-2", 4);
    isWorth("9-3+2", 8);
    isWorth("8/4/2", 1);
    isWorth("8/4*2", 4);
    isWorth("7%4*2", 6);
    isWorth("9%5%3", 1);
    isWorth("6*2%5", 2);
    isWorth("-2+5", 3);
    isWorth("-2*-3", 6);
    isWorth("!0+1", 2);
    isWorth("!1*5", 0);
    isWorth("!0=1", 1);
    isWorth("-!0", -1);
    isWorth("!-1", 0);
    isWorth("(1<2)<3", 1);
    isWorth("3<(2<1)", 0);
    isWorth("(((7)))", 7);
  }

  /** "Ints that wrap": 8192 * 8192 * 32 is the least int. */
  private static void wraps() {
    String least = "8192*8192*32";
    isWorth(least + "<0", 1);
    isWorth(least + "-1>0", 1);
    isWorth(least + "-1+1<0", 1);
    isWorth("-(" + least + ")=" + least, 1);
    isWorth(least + "/-1=" + least, 1);
    isWorth(least + "%-1", 0);
    isWorth(least + "*2", 0);
    isWorth(least + "+" + least, 0);
    isWorth("0-" + least + "<0", 1);
    isWorth(least, -9);
    isWorth(least + "-1", 9);
    isWorth("9999*9999*9999*9999%9=" + (9999 * 9999 * 9999 * 9999 % 9 < 0 ? "-" : "") + Math.abs(9999 * 9999 * 9999 * 9999 % 9), 1);
    isWorth("9999*9999*21>0", 1);
    isWorth("9999*9999*22<0", 1);
  }

  /** "/ and % toward 0" */
  private static void towardZero() {
    isWorth("7/2", 3);
    isWorth("-7/2", -3);
    isWorth("7/-2", -3);
    isWorth("-7/-2", 3);
    isWorth("-1/2", 0);
    isWorth("1/2", 0);
    isWorth("8/4", 2);
    isWorth("7%4", 3);
    isWorth("-7%4", -3);
    isWorth("7%-4", 3);
    isWorth("-7%-4", -3);
    isWorth("8%4", 0);
    isWorth("-8%4", 0);
  }

  /** "by 0 they give 0" */
  private static void byZero() {
    isWorth("5/0", 0);
    isWorth("5%0", 0);
    isWorth("0/0", 0);
    isWorth("0%0", 0);
    isWorth("-5/0", 0);
    isWorth("-5%0", 0);
    isWorth("8192*8192*32/0", 0);
    isWorth("8192*8192*32%0", 0);
    isWorth("5/(1-1)+3", 3);
    isWorth("1|5/0", 1);
    isWorth("0&5%0", 0);
  }

  /** "| & < = > ! give 1, 0" */
  private static void truths() {
    String[] a = {"0", "1", "5", "-3"};
    int[] values = {0, 1, 5, -3};
    for (int i = 0; i < 4; i++) {
      isWorth("!" + a[i], values[i] == 0 ? 1 : 0);
      for (int j = 0; j < 4; j++) {
        isWorth(a[i] + "|" + a[j], values[i] != 0 || values[j] != 0 ? 1 : 0);
        isWorth(a[i] + "&" + a[j], values[i] != 0 && values[j] != 0 ? 1 : 0);
        isWorth(a[i] + "<" + a[j], values[i] < values[j] ? 1 : 0);
        isWorth(a[i] + "=" + a[j], values[i] == values[j] ? 1 : 0);
        isWorth(a[i] + ">" + a[j], values[i] > values[j] ? 1 : 0);
      }
    }
  }

  /** "The first LINE without a first E, or whose first E is not 0, counts" */
  private static void linesThatCount() {
    isWorth("5;6", 5);
    isWorth("0;6", 0);
    isWorth("1?5;6", 5);
    isWorth("-1?5;6", 5);
    isWorth("9999?5;6", 5);
    isWorth("0?5;6", 6);
    isWorth("0?5;0?6;7", 7);
    isWorth("0?5;1?6;7", 6);
    isWorth("0?5;1?0;7", 0);
    isWorth("1?0;7", 0);
    isWorth("v-5?1;2", 2);
    isWorth("v-4?1;2", 1);
    isWorth("v-6?1;2", 1);
    isWorth("1-1?3;v", 5);
    isWorth("0?1/0;4", 4);
  }

  /** "none: 0." - for each USE: a stand, a tag of 0, a BET held at 1, no points. */
  private static void noLineCounts() {
    isWorth("0?5", 0);
    isWorth("0?5;0?6;v-5?7", 0);
    CardsGone x = with(0, 500);
    Due.text(x, 0, "0?1;0?2");
    Due.text(x, 2, "0?50");
    Due.text(x, 3, "0?50;0?60");
    Due.deal(x, 2, 10, 3, 7, 5);
    x.play(0, 1);
    Due.due("PLAY of no LINE stands", x.led(0, 2), 2);
    Due.due("BETS of no LINE", x.led(0, 0), 1);
    Due.due("WATCHES of no LINE", x.led(0, 6), 0);
  }

  /** "TAGS (what a card counts, held within -9 .. 9 ..)" */
  private static void heldTags() {
    int[] told = {-100, -10, -9, -8, 0, 8, 9, 10, 100};
    for (int v : told) {
      CardsGone x = with(0, 500);
      Due.text(x, 1, (v < 0 ? "-" : "") + Math.abs(v));
      int held = Math.max(-9, Math.min(9, v));
      for (int card = 1; card <= 10; card++) Due.due("tag(" + card + ") of " + v, x.tag(card), held);
      x.play(0, 1);
      Due.due("COUNT of " + v, x.left(11), held * (x.led(0, 2) + x.led(0, 3)));
    }
    CardsGone x = new CardsGone();
    Due.text(x, 1, "v*v");
    for (int v = 1; v <= 10; v++) Due.due("tag(" + v + ") of v*v", x.tag(v), Math.min(9, v * v));
    Due.due("tag(0)", x.tag(0), Due.VOID);
    Due.due("tag(11)", x.tag(11), Due.VOID);
  }

  /** "BETS (held within 1 .. 99 ..)" */
  private static void heldBets() {
    String[] told = {"-(8192*8192*32-1)", "-1", "0", "1", "2", "98", "99", "100", "9999", "8192*8192*32-1", "8192*8192*32"};
    int[] due = {1, 1, 1, 1, 2, 98, 99, 99, 99, 99, 1};
    for (int i = 0; i < told.length; i++) {
      CardsGone x = with(0, 500);
      Due.text(x, 2, told[i]);
      x.play(0, 1);
      Due.due("BET of " + told[i], x.led(0, 0), due[i]);
    }
  }

  /** "WATCHES (points, held within 0 .. 99 ..)" */
  private static void heldPoints() {
    String[] told = {"8192*8192*32", "-1", "0", "1", "98", "99", "100", "9999", "8192*8192*32-1"};
    int[] due = {0, 0, 0, 1, 98, 99, 99, 99, 99};
    for (int i = 0; i < told.length; i++) {
      CardsGone x = with(0, 500);
      Due.text(x, 3, told[i]);
      x.play(0, 2);
      Due.due("points of " + told[i], x.led(1, 6), due[i]);
      Due.due("points in all of " + told[i], x.ofPlayer(0, 3), 2 * due[i]);
    }
  }

  /** "0 PLAY (without one: 1 if TOTAL is below 17, else 0), 1 TAGS (.. without: 0), 2 BETS (.. without: 1), 3 WATCHES (.. without: 0)" */
  private static void withoutATextOfAUse() {
    CardsGone x = with(2, 500);
    int[] totals = {15, 16, 17, 18};
    for (int total : totals) {
      Due.deal(x, 10, 10, total - 10, 7, 2);
      x.play(0, 1);
      Due.due("cards with " + total, x.led(0, 2), total < 15 ? 4 : total < 17 ? 3 : 2);
      Due.due("BET", x.led(0, 0), 1);
      Due.due("points", x.led(0, 6), 0);
      Due.due("COUNT", x.left(11), 0);
    }
    for (int v = 1; v <= 10; v++) Due.due("tag(" + v + ")", x.tag(v), 0);
    int[] soft = {5, 6};
    for (int v : soft) {
      Due.deal(x, 1, 10, v, 7, 2);
      x.play(0, 1);
      Due.due("cards with an ACE and " + v, x.led(0, 2), v < 6 ? 3 : 2);
    }
  }

  /** "A NAME that is not of the USE is 0." */
  private static void namesThatAreNotOfTheUse() {
    for (char name : NAMES.toCharArray()) {
      CardsGone x = with(3, 500);
      Due.text(x, 1, "1");
      Due.text(x, 2, "7");
      Due.text(x, 0, "2");
      x.play(0, 9);
      Due.isSo("c and t are not 0", x.left(11) > 0 && x.left(13) > 0);
      Due.text(x, 1, "1+9*" + name);
      if (name != 'v') for (int v = 1; v <= 10; v++) Due.due(name + " in TAGS", x.tag(v), 1);
      Due.text(x, 2, "5+" + name);
      Due.text(x, 3, "5+" + name + "*" + name);
      x.play(0, 1);
      if ("bcts".indexOf(name) < 0) Due.due(name + " in BETS", x.led(0, 0), 5);
      if ("blwrct".indexOf(name) < 0) Due.due(name + " in WATCHES", x.led(0, 6), 5);
      Due.text(x, 0, "!(" + name + "=0)");
      Due.deal(x, 10, 9, 5, 10, 10);
      x.play(0, 1);
      if ("padncts".indexOf(name) < 0) Due.due(name + " in PLAY", x.led(0, 2), 2);
    }
  }

  /** "p TOTAL, a SOFT (1, 0), d the dealer's open VALUE, n how many cards", and c, t, s as they are then. */
  private static void namesOfPlay() {
    CardsGone x = with(3, 500);
    Due.text(x, 1, "v=2|v=3");
    String[] plays = {"p=5&a=0&d=9&n=2&c=2&t=2&s=4", "p=16&a=1&d=9&n=3&c=2&t=2&s=3", "p=18&a=1&d=9&n=4&c=3&t=3&s=3"};
    for (int asked = 0; asked < 3; asked++) {
      StringBuilder text = new StringBuilder();
      for (int i = 0; i <= asked; i++) text.append(i == 0 ? "" : ";").append(plays[i]).append("?1");
      Due.textByFours(x, 0, text.toString());
      Due.deal(x, 2, 9, 3, 10, 1, 2, 10);
      x.play(0, 1);
      Due.due("cards by " + text, x.led(0, 2), 3 + asked);
    }
    Due.due("it had 2, 3, 1, 2 and 10", x.led(0, 14), 10);
  }

  /** "b PURSE in units (cut)", c, t, s as the HAND begins. */
  private static void namesOfBets() {
    CardsGone x = with(3, 10);
    x.rule(1, 199);
    Due.text(x, 0, "0");
    Due.text(x, 2, "b");
    Due.due("b of 10", betOf(x), 10);
    x.purse(0, 1);
    Due.deal(x, 1, 9, 10, 9);
    Due.due("a NATURAL pays 199", x.play(0, 1), 199);
    Due.deal(x, 10, 10, 8, 9);
    x.play(0, 1);
    Due.due("b of 299 hundredths", x.led(0, 0), 2);
    Due.due("PURSE then", x.ofPlayer(0, 1), 99);
    CardsGone y = with(3, 5000);
    Due.text(y, 1, "1");
    y.play(0, 5);
    int c = y.left(11), t = y.left(13), s = y.left(1);
    Due.text(y, 2, "c");
    y.play(0, 1);
    Due.due("c", y.led(0, 0), c);
    t = y.left(13);
    Due.text(y, 2, "t+1");
    y.play(0, 1);
    Due.due("t", y.led(0, 0), t + 1);
    s = y.left(1);
    Due.text(y, 2, "s");
    y.play(0, 1);
    Due.due("s", y.led(0, 0), s);
    y.shoe(0, 5);
    Due.text(y, 2, "c+t+s");
    y.play(0, 1);
    Due.due("ahead of a SHUFFLED one c and t are 0, s all", y.led(0, 0), 24);
    CardsGone rich = with(0, 99999);
    Due.text(rich, 2, "b/1111");
    Due.due("b of five digits", betOf(rich), 90);
  }

  private static int betOf(CardsGone x) {
    x.play(0, 1);
    return x.led(0, 0);
  }

  /** "b the BET (as set ahead, DOUBLED or not), l that of the HAND ahead of it by that player (0 without), .. r .. (cut toward 0)", c and t as it began. */
  private static void namesOfWatches() {
    CardsGone x = with(0, 5000);
    x.player(1, 5000, 0);
    Due.text(x, 0, "2");
    Due.text(x, 1, "1");
    Due.text(x, 2, "6");
    Due.text(x, 3, "b");
    Due.deal(x, 6, 10, 5, 9, 10);
    Due.due("DOUBLED", x.play(0, 1), 1200);
    Due.due("b as set ahead", x.led(0, 6), 6);
    Due.text(x, 2, "3");
    Due.text(x, 3, "l");
    x.play(0, 3);
    Due.due("l of the call ahead", x.led(0, 6), 6);
    Due.due("l in one call", x.led(1, 6), 3);
    x.play(1, 2);
    Due.due("l without one: another player's does not count", x.led(0, 6), 0);
    Due.due("l then", x.led(1, 6), 3);
    CardsGone big = new CardsGone();
    big.player(5, 5000, 0);
    Due.text(big, 1, "-9");
    Due.text(big, 2, "6");
    Due.text(big, 3, "b*10+l");
    big.play(0, 3);
    int[] points = {60, 6, 0};
    for (int h = 0; h < 3; h++) Due.due("b and l of BIG, which bets 0 as t is below CALL", big.led(h, 6), points[h]);
    CardsGone y = with(0, 5000);
    Due.text(y, 3, "r+50");
    y.rule(1, 199);
    int[][] cards = {{1, 9, 10, 9}, {1, 10, 10, 1}, {10, 10, 8, 9}, {10, 10, 10, 9}};
    int[] due = {51, 50, 49, 51};
    Due.text(y, 0, "0");
    for (int i = 0; i < cards.length; i++) {
      Due.deal(y, cards[i]);
      y.play(0, 1);
      Due.due("r of HAND " + i, y.led(0, 6), due[i]);
    }
    Due.text(y, 0, "2");
    Due.deal(y, 10, 10, 6, 9, 10);
    y.play(0, 1);
    Due.due("r of a DOUBLE that is lost", y.led(0, 6), 48);
    CardsGone z = with(0, 5000);
    Due.text(z, 1, "1");
    Due.text(z, 3, "c");
    z.play(0, 4);
    int c = z.left(11);
    z.play(0, 1);
    Due.due("c as it began, for all KINDS", z.led(0, 6), c);
    Due.text(z, 3, "t*9");
    int t = z.left(13);
    z.play(0, 1);
    Due.due("t as it began, for all KINDS", z.led(0, 6), Math.min(99, 9 * t));
    Due.isSo("they were not 0", c > 0 && t > 0);
  }
}
