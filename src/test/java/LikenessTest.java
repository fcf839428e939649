/** Promises 6 to 13 and 22, 23, 31 to 33, 42: what is so in a colony. */
public final class LikenessTest {
  static final String COLONY = "man ann 58;man bob 30;man cid 90;man dan 7;deed aid good 12;deed cheer good 3;"
      + "deed rob crime 7;deed lie crime 2;did ann aid 2;did ann rob 1;did bob cheer 9;did cid cheer 2;did cid rob 2;"
      + "did cid lie 1;kin ann bob;kin bob cid;owes cid ann 4;owes cid bob 6;owes bob cid 40;plate 40;faint 10;";

  public static void main(String[] args) {
    men();
    deedsAndDebts();
    cells();
    sides();
    balanceAndFamily();
    captions();
    faintAheadOfFull();
    Checks.finish("LikenessTest");
  }

  private static void row(LikenessPound x, int m, int... due) {
    for (int what = 0; what < 8; what++) {
      Checks.due("man(" + m + ", " + what + ")", x.man(m, what), due[what]);
    }
  }

  private static void men() {
    LikenessPound x = Checks.with(COLONY);
    row(x, 0, 58, 24, 7, 1, -1, -1, 0, 0);
    row(x, 1, 30, 27, 40, 2, -1, -1, 40, 0);
    row(x, 2, 90, 6, 26, 1, -1, -1, 10, 0);
    row(x, 3, 7, 0, 0, 0, -1, -1, 0, 0);
    Checks.due("ann lends bob aid", x.lend(0, 1, 0), 0);
    Checks.due("cid lends bob rob", x.lend(2, 1, 2), 0);
    row(x, 0, 58, 12, 7, 1, 1, 0, 0, 0);
    row(x, 1, 30, 39, 47, 2, -1, -1, 40, 0);
    row(x, 2, 90, 6, 19, 1, 1, 2, 10, 0);
    Checks.due("did stays his own", x.did(0, 0), 2);
    Checks.due("who lends", x.now(4), 5);
    Checks.due("all white", x.now(5), 57);
    Checks.due("all dark", x.now(6), 73);
    Checks.due("faint", x.now(1), 8);
    Checks.due("seen", x.now(2), 5);
    Checks.due("full", x.now(3), 2);
    Checks.due("sittings", x.now(7), 0);
    Checks.due("now(-1)", x.now(-1), -1);
    Checks.due("now(8)", x.now(8), -1);
    Checks.dueNoSuch(x, -1, 0);
    Checks.dueNoSuch(x, 4, 0);
    Checks.dueNoSuch(x, 7, 7);
    Checks.dueNoSuch(x, 0, -1);
    Checks.dueNoSuch(x, 0, 8);
    Checks.dueNoSuch(x, Integer.MIN_VALUE, Integer.MAX_VALUE);
  }

  private static void deedsAndDebts() {
    LikenessPound x = Checks.with(COLONY);
    Checks.due("did", x.did(2, 1), 2);
    Checks.due("did without", x.did(3, 3), 0);
    Checks.due("did, no deed", x.did(0, 4), -1);
    Checks.due("did, no man", x.did(4, 0), -1);
    Checks.due("did, below", x.did(-1, 0), -1);
    Checks.due("did, below", x.did(0, -1), -1);
    Checks.due("weighs", x.deed(2, 0), 7);
    Checks.due("a crime", x.deed(2, 1), 1);
    Checks.due("no crime", x.deed(1, 1), 0);
    Checks.due("by all", x.deed(1, 2), 11);
    Checks.due("by all", x.deed(2, 2), 3);
    Checks.due("deed, no such", x.deed(4, 0), -1);
    Checks.due("deed, no such", x.deed(-1, 0), -1);
    Checks.due("deed, what", x.deed(0, 3), -1);
    Checks.due("deed, what", x.deed(0, -1), -1);
    Checks.due("owes", x.owes(2, 0), 4);
    Checks.due("owes as told", x.owes(0, 2), 0);
    Checks.due("owes", x.owes(1, 2), 40);
    Checks.due("owes himself", x.owes(1, 1), 0);
    Checks.due("owes, no such", x.owes(4, 0), -1);
    Checks.due("owes, no such", x.owes(0, 4), -1);
    Checks.due("owes, no such", x.owes(-1, 0), -1);
    Checks.due("kin", x.kin(1), 5);
    Checks.due("kin", x.kin(0), 2);
    Checks.due("no kin", x.kin(3), 0);
    Checks.due("kin, no such", x.kin(4), -1);
    Checks.due("kin, no such", x.kin(-1), -1);
  }

  private static void cells() {
    LikenessPound x = Checks.with(COLONY);
    int[] edges = {0, 1, 23, 1, 24, 0, 32, 0, 33, 2, 39, 2, 40, -1, -1, -1};
    for (int i = 0; i < edges.length; i += 2) {
      Checks.due("ann's cell " + edges[i], x.cell(0, edges[i]), edges[i + 1]);
    }
    // White goes ahead of dark where there is no room for both.
    for (int k = 0; k < 40; k++) {
      Checks.due("bob's cell " + k, x.cell(1, k), k < 27 ? 1 : 2);
    }
    Checks.due("dan's last cell", x.cell(3, 39), 0);
    Checks.due("no man", x.cell(4, 0), -1);
    Checks.due("no man", x.cell(-1, 0), -1);
  }

  private static void sides() {
    LikenessPound x = Checks.with("man a 1;deed p good 5;deed q crime 5;plate 20;faint 10;did a p 1;");
    Checks.due("below faint", x.man(0, 3), 0);
    x.act(0, 1);
    Checks.due("just faint's number", x.man(0, 3), 1);
    x.act(0, 0);
    x.act(0, 1);
    Checks.due("just the room", x.man(0, 3), 1);
    x.act(0, 1);
    Checks.due("above the room", x.man(0, 3), 2);
    Checks.due("white", x.man(0, 1), 10);
    Checks.due("dark", x.man(0, 2), 15);
  }

  private static void faintAheadOfFull() {
    LikenessPound x = Checks.with("man a 1;deed p good 9;plate 5;faint 20;did a p 1;");
    Checks.due("faint above the room", x.man(0, 3), 0);
    Checks.due("who is faint", x.now(1), 1);
    Checks.due("who is full", x.now(3), 0);
    Checks.dueText("caption", Checks.captionOf(x, 0), "a is faint");
  }

  private static void balanceAndFamily() {
    LikenessPound x = Checks.with(COLONY);
    Checks.due("family", x.family(0), 7);
    Checks.due("family", x.family(2), 7);
    Checks.due("alone", x.family(3), 8);
    Checks.due("family, no such", x.family(4), -1);
    Checks.due("family, no such", x.family(-1), -1);
    Checks.due("31 and 32 against 67", x.balance(5, 2), 2);
    Checks.due("67 against 63", x.balance(2, 5), 1);
    Checks.due("31 against 32", x.balance(1, 4), 2);
    Checks.due("nobody", x.balance(0, 0), 0);
    Checks.due("nobody and one without weight", x.balance(0, 8), 0);
    Checks.due("in both", x.balance(3, 2), -1);
    Checks.due("no such", x.balance(16, 0), -1);
    Checks.due("no such", x.balance(0, 16), -1);
    Checks.due("no such", x.balance(-1, 0), -1);
    Checks.due("no such", x.balance(0, Integer.MIN_VALUE), -1);
    Checks.due("heaviest", x.heaviest(), 1);
    LikenessPound y = Checks.with("man a 1;man b 2;man c 3;deed p good 4;did b p 2;did c p 2;");
    Checks.due("of like ones the first", y.heaviest(), 1);
    Checks.due("alike", y.balance(2, 4), 0);
    LikenessPound z = Checks.with("man a 1;man b 2;");
    Checks.due("no weight at all", z.heaviest(), 0);
    LikenessPound chain = Checks.with("man a 1;man b 1;man c 1;man d 1;man e 1;man f 1;man g 1;"
        + "kin g a;kin a f;kin f b;kin b e;kin e c;");
    Checks.due("a long chain", chain.family(6), 119);
    Checks.due("a long chain, from behind", chain.family(2), 119);
  }

  private static void captions() {
    LikenessPound x = Checks.with(COLONY);
    Checks.due("byteAt ahead of any", x.byteAt(0), -1);
    Checks.dueText("ann", Checks.captionOf(x, 0), "ann white 24 dark 7");
    Checks.dueText("bob", Checks.captionOf(x, 1), "no room");
    Checks.dueText("cid", Checks.captionOf(x, 2), "cid white 6 dark 26");
    Checks.dueText("dan", Checks.captionOf(x, 3), "dan is faint");
    Checks.due("no such", x.caption(4), -1);
    Checks.due("no such", x.caption(-1), -1);
    Checks.due("the latest stays", x.byteAt(0), 'd');
    Checks.due("byteAt(-1)", x.byteAt(-1), -1);
    LikenessPound y = Checks.with("man zyxwvut 1;deed p good 40;did zyxwvut p 5;plate 200;faint 0;");
    Checks.dueText("a long name", Checks.captionOf(y, 0), "zyxwvut white 200 dark 0");
    LikenessPound z = Checks.with("man a 1;faint 0;");
    Checks.dueText("seen with nothing", Checks.captionOf(z, 0), "a white 0 dark 0");
    Checks.due("count(-1)", z.count(-1), -1);
    Checks.due("count(5)", z.count(5), -1);
    Checks.due("count(0)", z.count(0), 1);
    Checks.due("count(3)", z.count(3), 0);
  }
}
