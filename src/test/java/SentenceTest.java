/** Promises 38 to 41: sentences, of whom they may be said, images. */
public final class SentenceTest {
  private static final String COLONY = "man a 58;man b 20;man c 5;man d 70;deed p good 6;deed q crime 4;did a p 8;did b q 1;"
      + "did c p 2;kin a b;kin b c;owes b a 10;plate 40;faint 10;";

  public static void main(String[] args) {
    faults();
    depths();
    saidOf();
    saidLater();
    images();
    Checks.finish("SentenceTest");
  }

  private static void fault(String text, int kind, int place) {
    LikenessPound x = Checks.with(COLONY);
    Checks.due("sentence '" + text + "'", Checks.sentence(x, text), -1 - place);
    Checks.due("fault of '" + text + "'", x.fault(), kind);
    Checks.due("the tape", x.count(4), 0);
    Checks.due("none is said", x.said(-1), -1);
    Checks.sentence(x, "number<2");
    Checks.sentence(x, text);
    Checks.due("the one ahead stays", x.said(-1), 2);
  }

  private static void faults() {
    fault("", 1, 0);
    fault("  ", 1, 2);
    fault("or", 1, 0);
    fault("seen seen", 1, 5);
    fault("seen or", 1, 7);
    fault("seen and or", 1, 9);
    fault("not", 1, 3);
    fault("()", 1, 1);
    fault("(seen", 1, 5);
    fault("(seen;", 1, 5);
    fault("seen)", 1, 4);
    fault("seen;", 1, 4);
    fault("a", 1, 0);
    fault("good", 1, 0);
    fault("7", 1, 0);
    fault("has", 1, 3);
    fault("has good", 1, 4);
    fault("has a", 3, 4);
    fault("has z", 3, 4);
    fault("has 5", 1, 4);
    fault("akin p", 3, 5);
    fault("akin z", 3, 5);
    fault("akin (", 1, 5);
    fault("white 5", 1, 6);
    fault("white <", 1, 7);
    fault("white < a", 1, 8);
    fault("white < 1000", 1, 8);
    fault("white << 5", 1, 7);
    fault("age ; 5", 1, 4);
    String blanks = new String(new char[196]).replace('\0', ' ');
    fault(blanks + "seen ", 1, 200);
    fault(blanks + " seen", 1, 200);
    fault(blanks + "has p", 1, 200);
    fault(blanks + "   pq", 1, 199);
    LikenessPound x = Checks.with(COLONY);
    Checks.due("200 bytes", Checks.sentence(x, blanks + "seen"), 1);
  }

  private static String times(String part, int n) {
    StringBuilder all = new StringBuilder();
    for (int i = 0; i < n; i++) {
      all.append(part);
    }
    return all.toString();
  }

  private static void ones(String text, int ones, int bits) {
    LikenessPound x = Checks.with(COLONY);
    Checks.due("sentence '" + text + "'", Checks.sentence(x, text), ones);
    Checks.due("fault", x.fault(), 0);
    Checks.due("the tape", x.count(4), 0);
    Checks.due("of how many: " + text, x.said(-1), Integer.bitCount(bits));
    int k = 0;
    for (int m = 0; m < 4; m++) {
      if ((bits >> m & 1) != 0) {
        Checks.due("of whom: " + text, x.said(k), m);
        k++;
      }
    }
    Checks.due("no more: " + text, x.said(k), -1);
    Checks.due("said(-2)", x.said(-2), -1);
    Checks.due("said of many", x.said(Integer.MAX_VALUE), -1);
  }

  private static void depths() {
    ones(times("not ", 7) + "seen", 8, 9);
    fault(times("not ", 8) + "seen", 4, 32);
    fault(times("not ", 8) + "or", 1, 32);
    ones(times("(", 7) + "seen" + times(")", 7), 8, 6);
    fault(times("(", 8) + "seen" + times(")", 8), 4, 8);
    fault(times("(not ", 4) + "seen" + times(")", 4), 4, 20);
    ones(times("(not ", 3) + "(seen)" + times(")", 3), 8, 9);
    ones("seen" + times(" or seen", 19), 20, 6);
    ones("seen" + times(" and seen", 19), 20, 6);
    fault("seen" + times(" or seen", 20), 4, 160);
    fault("seen" + times(" or seen", 19) + " or not seen", 4, 160);
    fault("seen" + times(" or seen", 19) + " or or", 1, 160);
    fault("(seen)" + times(" or (seen)", 10), 4, 100);
    ones("(seen)" + times(" or (seen)", 9), 20, 6);
  }

  private static void saidOf() {
    // a: white 48 (full); b: dark 14 (seen); c: white 12 (seen); d: nothing (faint).
    ones("seen", 1, 6);
    ones("faint", 1, 8);
    ones("full", 1, 1);
    ones("taken", 1, 0);
    ones("lending", 1, 0);
    ones("has p", 1, 5);
    ones("has q", 1, 2);
    ones("akin a", 1, 7);
    ones("akin c", 1, 7);
    ones("akin d", 1, 8);
    ones("white = 12", 1, 4);
    ones("white<12", 1, 10);
    ones("white>12", 1, 1);
    ones("dark > 13", 1, 2);
    ones("dark < 14", 1, 13);
    ones("age = 58", 1, 1);
    ones("age > 5", 1, 11);
    ones("number = 3", 1, 8);
    ones("number < 999", 1, 15);
    ones("not seen", 2, 9);
    ones("not not seen", 3, 6);
    ones("full or seen and has q", 3, 3);
    ones("has q and seen or full", 3, 3);
    ones("(full or seen) and has q", 4, 2);
    ones("not full or seen", 3, 14);
    ones("not (full or seen)", 4, 8);
    ones("seen and not has p or age=70 and faint", 5, 10);
    ones("((number=1))or(number=2)", 5, 6);
  }

  private static void saidLater() {
    LikenessPound x = Checks.with(COLONY);
    Checks.due("no sentence", x.said(-1), -1);
    Checks.due("no sentence", x.said(0), -1);
    Checks.sentence(x, "lending or taken");
    Checks.due("nobody", x.said(-1), 0);
    x.sit(3);
    x.lend(0, 1, 0);
    Checks.due("two", x.said(-1), 2);
    Checks.due("the first", x.said(0), 0);
    Checks.due("the second", x.said(1), 3);
    x.undo();
    Checks.due("it stays when acts are undone", x.said(-1), 1);
    x.years(1);
    Checks.due("he has sat still", x.said(0), 3);
    Checks.sentence(x, "has p");
    for (int i = 0; i < 3; i++) {
      x.act(2, 1);
    }
    x.lend(2, 1, 0);
    Checks.due("lent or not, his own", x.said(-1), 2);
    Checks.due("c has it still", x.said(1), 2);
    Checks.sentence(x, "white=6");
    Checks.due("as in the likeness", x.said(-1), 2);
    LikenessPound nobody = new LikenessPound();
    Checks.due("of nobody", Checks.sentence(nobody, "not seen"), 2);
    Checks.due("of nobody", nobody.said(-1), 0);
    Checks.due("of nobody", nobody.said(0), -1);
  }

  private static void images() {
    LikenessPound x = Checks.with(COLONY);
    for (int k : new int[] {-1, 2, Integer.MAX_VALUE}) {
      Checks.due("no such place", x.image(k), false);
      Checks.due("no such place", x.restore(k), false);
    }
    Checks.due("nothing is kept", x.restore(0), false);
    Checks.due("nothing is kept", x.restore(1), false);
    Checks.due("kept without a sentence", x.image(1), true);
    Checks.due("still nothing in 0", x.restore(0), false);
    x.act(3, 0);
    x.lend(0, 1, 0);
    x.sit(0);
    x.borrow(3, 2, 9);
    x.years(4);
    x.lend(0, 1, 0);
    Checks.sentence(x, "has p");
    Checks.due("image leaves what can be undone", x.image(0), true);
    Checks.due("undo()", x.undo(), 5);
    x.help(1);
    x.caption(2);
    x.career(2, 1);
    Checks.book(x, "c sits;", 0);
    Checks.colony(x, "man z 4;#");
    Checks.tape(x, "abc");
    Checks.due("restore(1)", x.restore(1), true);
    Checks.due("undo()", x.undo(), -1);
    Checks.due("no sentence", x.said(-1), -1);
    Checks.due("YEAR", x.now(0), 0);
    Checks.due("did", x.did(3, 0), 0);
    Checks.due("kept", x.kept(0, 0), -1);
    Checks.due("owes", x.owes(3, 2), 0);
    Checks.due("the tape stays", x.count(4), 3);
    Checks.due("the fault stays", x.fault(), 1);
    Checks.due("helping() stays", x.helping(), 0);
    Checks.due("the caption stays", x.byteAt(0), 'c');
    Checks.due("careerOf() stays", x.careerOf(0), 1);
    Checks.due("told() stays", x.told(1), 1);
    x.end(0);
    Checks.colony(x, "man y 9;man w 8;deed u good 2;plate 7;faint 1;kin y w;");
    Checks.due("restore(0)", x.restore(0), true);
    Checks.due("men", x.count(0), 4);
    Checks.due("deeds", x.count(1), 2);
    Checks.due("ROOM", x.count(2), 40);
    Checks.due("faint", x.count(3), 10);
    Checks.due("YEAR", x.now(0), 4);
    Checks.due("did", x.did(3, 0), 1);
    Checks.due("lends", x.man(0, 4), 1);
    Checks.due("kin", x.kin(1), 5);
    Checks.due("weighs", x.deed(1, 0), 4);
    Checks.due("a crime", x.deed(1, 1), 1);
    Checks.due("kept", x.kept(0, 0), 42);
    Checks.due("age", x.man(0, 0), 62);
    Checks.due("owes", x.owes(3, 2), 9);
    Checks.due("the sentence", x.said(-1), 3);
    Checks.dueText("names", Checks.captionOf(x, 2), "c white 12 dark 0");
    Checks.due("names are known", Checks.sentence(x, "akin a and has q"), 2);
    Checks.due("undo()", x.undo(), -1);
    x.act(3, 0);
    Checks.due("again", x.restore(0), true);
    Checks.due("did", x.did(3, 0), 1);
    x.image(1);
    x.act(3, 0);
    Checks.due("another image", x.restore(1), true);
    Checks.due("did", x.did(3, 0), 1);
  }
}
