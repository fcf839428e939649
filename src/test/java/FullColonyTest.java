/** Colonies that have as many MEN and DEEDS as there may be, and what is left of them in those that come afterwards. */
public final class FullColonyTest {
  private static final String MEN = "man a 1;man b 2;man c 3;man d 4;man e 5;man f 6;man g 7;";
  private static final String DEEDS = "deed p good 1;deed q good 2;deed r good 3;deed s good 4;deed t good 5;"
      + "deed u crime 6;deed v crime 7;deed w crime 8;deed x crime 9;deed y crime 10;";
  private static final String ALL_KIN = "kin a b;kin a c;kin a d;kin a e;kin a f;kin a g;kin b c;kin b d;kin b e;kin b f;"
      + "kin b g;kin c d;kin c e;kin c f;kin c g;kin d e;kin d f;kin d g;kin e f;kin e g;kin f g;";
  private static final String LAST_DID = "did g p 9;did g q 9;did g r 9;did g s 9;did g t 9;did g u 9;did g v 9;did g w 9;"
      + "did g x 9;did g y 9;owes g a 1;owes g b 2;owes g c 3;owes g d 4;owes g e 5;owes g f 6;";
  private static final String OTHERS_DID = "did b y 1;did c y 1;did d y 1;did e y 1;did f y 1;";

  public static void main(String[] args) {
    whatIsSo();
    acts();
    years();
    books();
    sentences();
    helps();
    mays();
    careers();
    hides();
    drawsAndOdds();
    longNames();
    nothingIsLeftOfOneAhead();
    fewerBehindMore();
    imagesOfAll();
    Checks.finish("FullColonyTest");
  }

  private static LikenessPound full() {
    return Checks.with(MEN + DEEDS + ALL_KIN + LAST_DID + OTHERS_DID + "plate 200;faint 60;");
  }

  private static void manIs(LikenessPound x, int m, int... due) {
    for (int what = 0; what < 8; what++) {
      Checks.due("man(" + m + ", " + what + ")", x.man(m, what), due[what]);
    }
  }

  private static void whatIsSo() {
    Checks.about("7 MEN, 10 DEEDS at most, numbered from 0 each: what is so");
    LikenessPound x = full();
    manIs(x, 0, 1, 0, 0, 0, -1, -1, 0, 0);
    manIs(x, 5, 6, 0, 10, 0, -1, -1, 0, 0);
    manIs(x, 6, 7, 135, 381, 2, -1, -1, 21, 0);
    for (int d = 0; d < 10; d++) {
      Checks.due("did(6, " + d + ")", x.did(6, d), 9);
      Checks.due("did(5, " + d + ")", x.did(5, d), d == 9 ? 1 : 0);
      Checks.due("deed(" + d + ", 2)", x.deed(d, 2), d == 9 ? 14 : 9);
    }
    for (int m = 0; m < 7; m++) {
      Checks.due("kin(" + m + ")", x.kin(m), 127 - (1 << m));
      Checks.due("family(" + m + ")", x.family(m), 127);
      Checks.due("owes(6, " + m + ")", x.owes(6, m), m < 6 ? m + 1 : 0);
      Checks.due("owes(" + m + ", 6)", x.owes(m, 6), 0);
    }
    int[] now = {0, 63, 0, 64, 0, 135, 431, 0};
    for (int what = 0; what < 8; what++) {
      Checks.due("now(" + what + ")", x.now(what), now[what]);
    }
    Checks.due("cell(6, 134)", x.cell(6, 134), 1);
    Checks.due("cell(6, 135)", x.cell(6, 135), 2);
    Checks.due("cell(6, 199)", x.cell(6, 199), 2);
    Checks.due("cell(5, 190)", x.cell(5, 190), 2);
    Checks.due("cell(5, 189)", x.cell(5, 189), 0);
    Checks.due("heaviest()", x.heaviest(), 6);
    Checks.due("balance(64, 63)", x.balance(64, 63), 1);
    Checks.due("balance(63, 64)", x.balance(63, 64), 2);
    Checks.dueText("CAPTION", Checks.captionOf(x, 6), "no room");
    Checks.dueText("CAPTION", Checks.captionOf(x, 5), "f is faint");
  }

  private static void acts() {
    Checks.about("7 MEN, 10 DEEDS at most: acts of the last ones");
    LikenessPound x = full();
    Checks.due("act(6, 9)", x.act(6, 9), 1);
    Checks.due("act(5, 9)", x.act(5, 9), 0);
    Checks.due("did(5, 9)", x.did(5, 9), 2);
    Checks.due("lend(6, 5, 9)", x.lend(6, 5, 9), 0);
    Checks.due("lend(5, 6, 9)", x.lend(5, 6, 9), 0);
    Checks.due("lend(4, 6, 9)", x.lend(4, 6, 9), 0);
    Checks.due("lend(0, 6, 9)", x.lend(0, 6, 9), 3);
    manIs(x, 6, 7, 135, 391, 2, 5, 9, 21, 0);
    manIs(x, 5, 6, 0, 20, 0, 6, 9, 0, 0);
    Checks.due("who lends", x.now(4), 112);
    Checks.due("back(6)", x.back(6), 0);
    Checks.due("borrow(6, 5, 40)", x.borrow(6, 5, 40), 0);
    Checks.due("borrow(5, 6, 40)", x.borrow(5, 6, 40), 0);
    Checks.due("pay(6, 5, 6)", x.pay(6, 5, 6), 0);
    Checks.due("owes(6, 5)", x.owes(6, 5), 40);
    Checks.due("sit(6)", x.sit(6), 0);
    int[] kept = {135, 435, 0, 7};
    for (int what = 0; what < 4; what++) {
      Checks.due("kept(6, " + what + ")", x.kept(6, what), kept[what]);
    }
    Checks.due("undo() of the sitting, the ninth that was done", x.undo(), 7);
    Checks.due("kept(6, 0)", x.kept(6, 0), -1);
  }

  private static void years() {
    Checks.about("7 MEN at most: a YEAR goes for all");
    LikenessPound x = full();
    for (int m = 1; m < 7; m++) {
      Checks.due("lend(" + m + ", 0, 9)", x.lend(m, 0, 9), 0);
    }
    Checks.due("who lends", x.now(4), 126);
    Checks.due("all lent to him", x.man(0, 2), 60);
    Checks.due("SEEN by that", x.now(2), 1);
    for (int m = 0; m < 7; m++) {
      Checks.due("sit(" + m + ")", x.sit(m), 0);
    }
    Checks.due("sittings", x.now(7), 7);
    Checks.due("years(30)", x.years(30), 30);
    for (int m = 0; m < 7; m++) {
      Checks.due("AGE", x.man(m, 0), m + 31);
      Checks.due("he lends none", x.man(m, 4), -1);
      Checks.due("kept(" + m + ", 1)", x.kept(m, 1), m == 0 ? 60 : m == 6 ? 371 : 0);
    }
    Checks.due("nothing is lent to him", x.man(0, 2), 0);
  }

  private static void books() {
    Checks.about("7 MEN, 10 DEEDS at most: a BOOK of the last ones");
    LikenessPound x = full();
    String book = "g lends f y;g returns;f does y;g borrows f 40;g pays f 40;year 1;g sits;";
    Checks.due("judged", Checks.book(x, book, 0), -1);
    Checks.due("LINES", x.told(1), 7);
    Checks.due("the YEAR", x.told(2), 1);
    Checks.due("lived", Checks.book(x, book, 1), -1);
    Checks.due("did(5, 9)", x.did(5, 9), 2);
    Checks.due("kept(6, 1)", x.kept(6, 1), 381);
    Checks.due("WRONG", Checks.book(x, "f does y;g does y;", 1), 1);
    Checks.due("undo()", x.undo(), 1);
    Checks.due("undo()", x.undo(), 0);
    Checks.due("the YEAR", x.now(0), 0);
    Checks.book(x, "a borrows g 40;a borrows f 20;", 0);
    Checks.due("who is SEEN then", x.told(3), 1);
  }

  private static void saidOf(LikenessPound x, String text, int bits) {
    Checks.due("'" + text + "'", Checks.sentence(x, text) > 0, true);
    Checks.due("of how many '" + text + "'", x.said(-1), Integer.bitCount(bits));
    int k = 0;
    for (int m = 0; m < 7; m++) {
      if ((bits >> m & 1) != 0) {
        Checks.due("of whom '" + text + "'", x.said(k), m);
        k++;
      }
    }
    Checks.due("no more '" + text + "'", x.said(k), -1);
  }

  private static void sentences() {
    Checks.about("It is said of MEN: of all seven");
    LikenessPound x = full();
    x.borrow(1, 0, 40);
    x.borrow(1, 0, 15);
    x.borrow(1, 0, 10);
    x.sit(3);
    x.sit(6);
    x.lend(4, 2, 9);
    // b has 75 and is SEEN, g is FULL, the others are FAINT.
    saidOf(x, "seen", 2);
    saidOf(x, "faint", 61);
    saidOf(x, "full", 64);
    saidOf(x, "taken", 72);
    saidOf(x, "lending", 16);
    saidOf(x, "has y", 126);
    saidOf(x, "has p", 64);
    saidOf(x, "akin g", 127);
    saidOf(x, "white>0", 64);
    saidOf(x, "dark=10", 40);
    saidOf(x, "dark=20", 4);
    saidOf(x, "age>5", 96);
    saidOf(x, "number>4", 96);
    saidOf(x, "number=6 or number=0", 65);
    saidOf(x, "not full", 63);
    saidOf(x, "not (full or number<6)", 0);
    saidOf(x, "not (full and number<6)", 127);
  }

  private static void helps() {
    Checks.about("HELP by all six, of ten DEEDS");
    LikenessPound x = full();
    Checks.due("60 by six tens", x.help(0), 6);
    Checks.due("who", x.helping(), 126);
    x.borrow(0, 1, 1);
    Checks.due("59 by six", x.help(0), 6);
    x.borrow(0, 1, 9);
    Checks.due("50 by five", x.help(0), 5);
    Checks.due("the least as bits", x.helping(), 62);
    x.pay(0, 1, 10);
    x.lend(1, 2, 9);
    Checks.due("one of them lends", x.help(0), -1);
    Checks.due("for f, 50 by five of five", x.help(5), -1);
  }

  private static void mays() {
    Checks.about("MAY of ten DEEDS, by those of one sort alone, too");
    LikenessPound x = full();
    x.feed(135 << 24 | 254 << 16, 0, 0, 0, 0);
    x.end(2);
    Checks.due("rows", x.may() > 0, true);
    // 254 is not made by 28 times, as 28 make 250 at most; by 29 without u it needs v thrice, then y eight times.
    int[] due = {9, 9, 9, 9, 9, 0, 3, 9, 9, 8};
    for (int d = 0; d < 10; d++) {
      Checks.due("mayBe(" + d + ")", x.mayBe(d), due[d]);
    }
    Checks.due("an eleventh", x.mayBe(10), -1);
  }

  private static void careers() {
    Checks.about("CAREER by ten DEEDS");
    LikenessPound x = full();
    Checks.due("y eight times more, x twice", x.career(5, 10), 108);
    for (int d = 0; d < 10; d++) {
      Checks.due("careerOf(" + d + ")", x.careerOf(d), d == 9 ? 8 : d == 8 ? 2 : 0);
    }
    Checks.due("an eleventh", x.careerOf(10), -1);
    Checks.due("y nine times, x once", x.career(0, 10), 99);
    Checks.due("careerOf(9)", x.careerOf(9), 9);
    Checks.due("above the ROOM", x.career(6, 10), -1);
  }

  private static void hides() {
    Checks.about("HIDE by all good DEEDS, those that weigh 1 and those that weigh 40");
    LikenessPound x = Checks.with(MEN + DEEDS + "did g y 1;plate 135;");
    Checks.due("all of them", x.hide(6), 45);
    LikenessPound y = Checks.with(MEN + DEEDS + "did g y 1;plate 136;");
    Checks.due("not by all", y.hide(6), -1);
    LikenessPound z = Checks.with(MEN + DEEDS + "did g y 1;plate 127;");
    Checks.due("but for eight that weigh 1", z.hide(6), 37);
    LikenessPound last = Checks.with("man a 1;deed o good 39;deed p crime 1;deed q crime 1;deed r crime 1;deed s crime 1;"
        + "deed t crime 1;deed u crime 1;deed v crime 1;deed w crime 1;deed x good 40;did a w 1;plate 80;");
    Checks.due("by the tenth twice", last.hide(0), 2);
  }

  private static int[] drawn(int seed, int years, int men, int deeds) {
    int[] did = new int[men * deeds];
    long x = seed & 0xffffffffL;
    for (int i = 0; i < years * men; i++) {
      x = next(x);
      int kind = (int) (x / 256 % 6);
      if (kind == 2) {
        x = next(next(x));
      } else if (kind < 2) {
        x = next(x);
        int d = (int) (x / 256 % deeds);
        did[i % men * deeds + d] = Math.min(9, did[i % men * deeds + d] + 1);
      }
    }
    return did;
  }

  private static long next(long x) {
    return (x * 1103515245L + 12345L) % 4294967296L;
  }

  private static void drawsAndOdds() {
    Checks.about("DRAWN: a draw of all MEN, of all DEEDS");
    int seen = 0;
    for (int seed = -5; seed < 25; seed++) {
      LikenessPound x = Checks.with(MEN + DEEDS);
      int[] did = drawn(seed, 30, 7, 10);
      Checks.due("drawn(30, " + seed + ")", x.drawn(30, seed), 30);
      for (int i = 0; i < 70; i++) {
        Checks.due("did " + i + " by " + seed, x.did(i / 10, i % 10), did[i]);
      }
      int[] ten = drawn(seed, 10, 7, 10);
      int weight = 0;
      for (int d = 0; d < 10; d++) {
        weight += ten[60 + d] * (d + 1);
      }
      seen += weight >= 10 && weight <= 60 ? 1 : 0;
    }
    Checks.due("odds(6, 30, -5)", Checks.with(MEN + DEEDS).odds(6, 30, -5), seen);
  }

  private static void longNames() {
    Checks.about("NAME: WORDS of seven letters, as many as there may be");
    StringBuilder text = new StringBuilder();
    String[] men = new String[7];
    String[] deeds = new String[10];
    for (int m = 0; m < 7; m++) {
      men[m] = "zzzzzz" + (char) ('t' + m);
      text.append("man ").append(men[m]).append(' ').append(m).append(';');
    }
    for (int d = 0; d < 10; d++) {
      deeds[d] = (char) ('a' + d) + "aaaaaa";
      text.append("deed ").append(deeds[d]).append(d % 2 == 0 ? " good " : " crime ").append(d + 20).append(';');
    }
    LikenessPound x = Checks.with(text.toString());
    for (int m = 0; m < 7; m++) {
      Checks.dueText("NAME", Checks.captionOf(x, m), men[m] + " is faint");
    }
    for (int d = 0; d < 10; d++) {
      int m = d % 7;
      Checks.due("a BOOK", Checks.book(x, men[m] + " does " + deeds[d] + ";", 1), -1);
      Checks.due("did", x.did(m, d), 1);
      Checks.sentence(x, "has " + deeds[d] + " and akin " + men[m]);
      Checks.due("of whom", x.said(0), m);
    }
    Checks.dueText("NAME", Checks.captionOf(x, 6), men[6] + " white 26 dark 0");
  }

  private static void nothingIsLeftOfOneAhead() {
    Checks.about("A new COLONY: YEAR 0, nothing lent, nobody has sat, no SENTENCE: again and again");
    String bare = MEN + DEEDS;
    LikenessPound fresh = Checks.with(bare);
    StringBuilder due = new StringBuilder();
    firstAndLast(fresh, due);
    LikenessPound x = new LikenessPound();
    for (int round = 0; round < 4; round++) {
      Checks.due("a full one", Checks.colony(x, bare + ALL_KIN + LAST_DID), 54);
      x.lend(6, 5, 9);
      x.sit(6);
      x.years(30);
      x.lend(6, 0, 0);
      x.odds(6, 2, 3);
      Checks.sentence(x, "full");
      if (round % 2 == 1) {
        Checks.due("an empty one", x.colony(), 0);
        x.years(5);
      }
      Checks.due("a bare one", Checks.colony(x, bare), 17);
      StringBuilder got = new StringBuilder();
      firstAndLast(x, got);
      Checks.dueText("what is so, round " + round, got.toString(), due.toString());
    }
  }

  /** Some of what is so, few enough that an object can be asked four times. */
  private static void firstAndLast(LikenessPound x, StringBuilder all) {
    for (int what = 0; what < 8; what++) {
      all.append(' ').append(x.now(what)).append(' ').append(x.man(6, what));
    }
    for (int d = 0; d < 10; d++) {
      all.append(' ').append(x.did(6, d));
    }
    for (int k = 0; k < 7; k++) {
      all.append(' ').append(x.owes(6, k)).append(' ').append(x.kin(k));
    }
    all.append(' ').append(x.kept(6, 0)).append(' ').append(x.said(-1)).append(' ').append(x.undo());
  }

  private static void fewerBehindMore() {
    Checks.about("The tape is the COLONY now: nothing of those MEN and DEEDS that it has not");
    LikenessPound x = full();
    x.lend(6, 5, 9);
    x.sit(6);
    x.image(0);
    for (int round = 0; round < 3; round++) {
      Checks.due("fewer", Checks.colony(x, "man a 1;man b 1;deed p good 1;did a p 1;owes a b 1;plate 20;"), 6);
      Checks.due("no such MAN", x.sit(2), -1);
      Checks.due("no such DEED", x.did(0, 1), -1);
      Checks.due("all WHITE", x.now(5), 1);
      Checks.due("all DARK", x.now(6), 1);
      Checks.due("who is FAINT", x.now(1), 3);
      Checks.due("heaviest()", x.heaviest(), 0);
      Checks.due("balance(4, 0)", x.balance(4, 0), -1);
      Checks.due("help(0)", x.help(0), -1);
      Checks.due("hide(0): eight more are 9", x.hide(0), -1);
      Checks.due("career(0, 10)", x.career(0, 10), 10);
      x.feed(9 << 24, 0, 0, 0, 0);
      x.end(2);
      Checks.due("may()", x.may(), 1);
      Checks.due("mayBe(0)", x.mayBe(0), 9);
      Checks.due("NAMES that are not told", Checks.sentence(x, "akin g"), -6);
      Checks.due("NAMES that are not told", Checks.book(x, "a does y;", 1), -2 - 7);
      x.years(2);
      if (round == 1) {
        Checks.due("restore(0)", x.restore(0), true);
        manIs(x, 6, 7, 135, 371, 2, 5, 9, 21, 1);
      }
    }
  }

  private static void imagesOfAll() {
    Checks.about("Promise 40: COLONY, all that is so and the SENTENCE are kept, of all MEN and DEEDS");
    LikenessPound x = full();
    x.lend(6, 5, 9);
    x.sit(6);
    Checks.sentence(x, "number>4");
    x.image(0);
    StringBuilder due = new StringBuilder();
    x.years(1);
    x.restore(0);
    firstAndLast(x, due);
    x.years(30);
    x.borrow(6, 5, 40);
    x.act(5, 9);
    Checks.sentence(x, "full");
    x.image(1);
    Checks.colony(x, "");
    Checks.due("restore(0)", x.restore(0), true);
    StringBuilder got = new StringBuilder();
    firstAndLast(x, got);
    Checks.dueText("as kept", got.toString(), due.toString());
    Checks.due("of whom", x.said(1), 6);
    Checks.due("restore(1)", x.restore(1), true);
    Checks.due("the YEAR", x.now(0), 30);
    Checks.due("owes(6, 5)", x.owes(6, 5), 46);
    Checks.due("did(5, 9)", x.did(5, 9), 2);
    Checks.due("of whom", x.said(0), 6);
    Checks.due("kept(6, 3)", x.kept(6, 3), 7);
  }
}
