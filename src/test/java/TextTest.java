/** Promises 5 to 7: the tape, the texts, the tags. */
public final class TextTest {
  public static void main(String[] args) {
    tape();
    faults();
    opens();
    values();
    tags();
    aFaultLeavesTheTextBefore();
    namesOfUses();
    Due.end();
  }

  private static void tape() {
    CardsGone x = new CardsGone();
    Due.due("feed(0, 1)", x.feed(0, 1), CardsGone.BAD);
    Due.due("feed(5, 1)", x.feed(5, 1), CardsGone.BAD);
    Due.due("feed(-1, 1)", x.feed(-1, 1), CardsGone.BAD);
    Due.due("feed(2, ..)", x.feed(2, 'v' | '*' << 8 | '9' << 16), 2);
    Due.due("feed(1, 2)", x.feed(1, '2'), 3);
    Due.due("text(1): the lowest byte first", x.text(1), 1);
    Due.due("tag(3)", x.tag(3), 6);
    for (int i = 1; i <= 29; i++) x.feed(4, 0x31313131);
    Due.due("feed(3, ..)", x.feed(3, 0x2b2b2b), 119);
    Due.due("feed(2, ..) onto 119", x.feed(2, 0), CardsGone.FULL);
    Due.due("count(1)", x.count(1), 119);
    Due.due("feed(1, ..) onto 119", x.feed(1, 0), 120);
    Due.due("feed(1, ..) onto 120", x.feed(1, 0), CardsGone.FULL);
    Due.due("text(4)", x.text(4), CardsGone.BAD);
    Due.due("text(-1)", x.text(-1), CardsGone.BAD);
    Due.due("THE TAPE stays", x.count(1), 120);
    Due.due("text(0)", x.text(0), -104);
    Due.due("THE TAPE is empty", x.count(1), 0);
    StringBuilder longest = new StringBuilder();
    for (int i = 0; i < 59; i++) longest.append("0+");
    Due.due("120 bytes", Due.text(x, 1, longest + "12"), 1);
    Due.due("tag(1)", x.tag(1), 9);
  }

  private static void faults() {
    String[] texts = {"", "1;", ";", "1;;1", "1?", "1?2?3", "?1", "1?2;3?4;5", "12345", "1234", "0000", "x", "1 ", " 1", "1<2<3",
        "1<2&3<4|5=6", "1=2=3", "(1<2)<3", "(1", "(1)", "()", "(1))", "(1;2)", "(1?2)", "1+", "1+*2", "1*/2", "-", "1-", "1--1", "!",
        "1!", "!1", "p+a+d+n+v+b+l+w+r+c+t+s", "e", "pp", "p1", "1p", "P", "\u00e9", "1\u00e9", "1&", "1|", "1||1", "1&&1", "1>=1", "+1",
        "1%", "%", "(", ")", "((1)", "1)", "1?(2)", "(1)?2", "(1+2", "12(", ")1"};
    int[] faults = {0, 2, 0, 2, 2, 3, 0, -1, 4, -1, -1, 0, 1, 0, 3,
        -1, 3, -1, 2, -1, 1, 3, 2, 2, 2, 2, 2, 1, 2, -1, 1,
        1, -1, -1, 0, 1, 1, 1, 0, 0, 1, 2, 2, 2, 2, 2, 0,
        2, 0, 1, 0, 4, 1, -1, -1, 4, 2, 0};
    CardsGone x = new CardsGone();
    for (int i = 0; i < texts.length; i++) {
      Due.due("text() of " + texts[i], Due.text(x, 2, texts[i]), faults[i] < 0 ? 1 : -100 - faults[i]);
    }
  }

  private static void opens() {
    CardsGone x = new CardsGone();
    Due.due("six (", Due.text(x, 1, "((((((1))))))"), 1);
    Due.due("seven (", Due.text(x, 1, "(((((((1)))))))"), -106);
    Due.due("six -", Due.text(x, 1, "------1"), 1);
    Due.due("seven -", Due.text(x, 1, "-------1"), -106);
    Due.due("six of !-(", Due.text(x, 1, "!-(!-(1))"), 1);
    Due.due("seven of !-(", Due.text(x, 1, "!-(!-(-1))"), -106);
    Due.due("seven of !-(!-((1", Due.text(x, 1, "!-(!-((1)))"), -106);
    Due.due("closed ones are not open", Due.text(x, 1, "-----1+-----1+(((((1)))))+!!!!!!1"), 1);
    Due.due("- between is not open", Due.text(x, 1, "1-------1"), 1);
    Due.due("one too many behind it", Due.text(x, 1, "1--------1"), -108);
    Due.due("- ahead of ( is open inside", Due.text(x, 1, "-----(-1)"), -106);
    Due.due("and closed behind", Due.text(x, 1, "-----(1)-(((((-1)))))"), 1);
  }

  private static void values() {
    String[] texts = {"1+2*3", "(1+2)*3", "9-3-2", "8/2/2", "9%5%3", "-7/2", "-7%4", "7%-4", "5/0", "5%0", "1<2", "2<1", "2>1", "2=2",
        "1|0", "0|0", "2&3", "2&0", "!0", "!5", "!!5", "-5", "--5", "1|0&0", "(1|0)&0", "1+1<3", "1<2+0", "0?5;7", "1?5;7", "0?5",
        "0?5;0?6", "0?5;3;4", "2-2?5;6", "9999*9999*9999*9999/9999/9999/9999%9", "0=0&1=1", "3>2&2>3|1", "!1+5", "-2*-3", "-1?4", "0/5?1;2",
        "9999*9999*22/9999/9999%9", "9999*9999*21<9999*9999*22", "99", "-99", "-!0", "!-1"};
    int[] due = {7, 9, 4, 2, 1, -3, -3, 3, 0, 0, 1, 0, 1, 1,
        1, 0, 1, 0, 1, 0, 1, -5, 5, 1, 0, 1, 1, 7, 5, 0,
        0, 3, 6, 9999 * 9999 * 9999 * 9999 / 9999 / 9999 / 9999 % 9, 1, 1, 5, 6, 4, 2,
        9999 * 9999 * 22 / 9999 / 9999 % 9, 0, 9, -9, -1, 0};
    CardsGone x = new CardsGone();
    for (int i = 0; i < texts.length; i++) {
      int at = Due.text(x, 1, texts[i]);
      Due.due("the value of " + texts[i], at == 1 ? x.tag(5) : at, due[i]);
    }
  }

  private static void tags() {
    CardsGone x = new CardsGone();
    Due.due("tag() without a TEXT", x.tag(4), 0);
    Due.text(x, 1, "v*3-15");
    int[] due = {0, -9, -9, -6, -3, 0, 3, 6, 9, 9, 9};
    for (int v = 1; v <= 10; v++) Due.due("tag(" + v + ")", x.tag(v), due[v]);
    int[] bad = {0, 11, -1, Integer.MAX_VALUE, Integer.MIN_VALUE};
    for (int v : bad) Due.due("tag(" + v + ")", x.tag(v), Due.VOID);
  }

  private static void aFaultLeavesTheTextBefore() {
    CardsGone x = new CardsGone();
    Due.text(x, 1, "v");
    Due.due("text(1) of 3+", Due.text(x, 1, "3+"), -102);
    Due.due("tag(4) as before", x.tag(4), 4);
    Due.due("text(1) of nothing", x.text(1), -100);
    Due.due("tag(4) as before", x.tag(4), 4);
    Due.due("text(0) of 1", Due.text(x, 0, "1"), 1);
    Due.due("another USE's TEXT does not touch it", x.tag(4), 4);
  }

  /** Each NAME in each USE, by what it does where a player can see it. */
  private static void namesOfUses() {
    CardsGone x = new CardsGone();
    for (String name : "p a d n b l w r c t s".split(" ")) {
      Due.due("text(1) of " + name, Due.text(x, 1, "1+9*" + name), 1);
      Due.due(name + " in TAGS is 0", x.tag(5), 1);
    }
    for (String name : "p a d n v l w r".split(" ")) Due.due(name + " in BETS is 0", betBy(3, "5+" + name), 5);
    for (String name : "v b l w r".split(" ")) Due.due(name + " in PLAY is 0", handBy(3, "1+" + name), -100);
    for (String name : "p a d n v s".split(" ")) Due.due(name + " in WATCHES is 0", pointsBy("5+" + name), 5);
    Due.due("b in BETS", betBy(0, "b/100"), 9);
    Due.due("s in BETS for SIDE", betBy(3, "s"), 24);
    Due.due("s in BETS for COUNTING", betBy(2, "s"), 1);
    Due.due("b in WATCHES", pointsBy("b"), 1);
    // 10 and 6 against 9: each draw is told by what the NAME is
    Due.due("p", handBy(0, "p=16"), -100);
    Due.due("p is another", handBy(0, "p=15"), 100);
    Due.due("d", handBy(0, "d=9"), -100);
    Due.due("n", handBy(0, "n=2"), -100);
    Due.due("a of a hard one", handBy(0, "a=1"), 100);
    Due.due("a of a hard one", handBy(0, "a=0"), -100);
    CardsGone y = new CardsGone();
    y.player(0, 950, 0);
    Due.row(y, 0, 1, 9, 6, 10, 3);
    Due.text(y, 0, "a=1&n=2");
    Due.due("a of a SOFT one: it draws a 3 to 20", y.hand(0, 0, 0), 100);
    Due.text(y, 0, "a=0");
    Due.due("a of a SOFT one: it stands at 17", y.hand(0, 0, 0), -100);
    Due.due("s for SIDE", handBy(3, "s=24"), -100);
    Due.due("s for PLAIN", handBy(1, "s=24"), 100);
  }

  private static int betBy(int kind, String bets) {
    CardsGone x = new CardsGone();
    x.player(kind, 950, 0);
    Due.text(x, 2, bets);
    x.play(0, 1);
    return x.led(0, 0);
  }

  private static int pointsBy(String watches) {
    CardsGone x = new CardsGone();
    x.player(0, 950, 0);
    Due.text(x, 3, watches);
    x.play(0, 1);
    return x.led(0, 6);
  }

  /** 10, 6 against 9 and hidden 4: a draw brings 10 (lost); who stands sees the dealer draw 10 to 13 and lose. */
  private static int handBy(int kind, String plays) {
    CardsGone x = new CardsGone();
    x.player(kind, 950, 0);
    Due.row(x, 0, 10, 9, 6, 4, 10, 10);
    Due.text(x, 0, plays);
    return x.hand(0, 0, 0);
  }
}
