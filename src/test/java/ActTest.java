/** Promises 12 and 14 to 21: acts, years, sittings, and how they are undone. */
public final class ActTest {
  public static void main(String[] args) {
    doing();
    lending();
    debts();
    sitting();
    years();
    undoing();
    onlyEightAreKept();
    Checks.finish("ActTest");
  }

  private static void doing() {
    LikenessPound x = Checks.with("man a 1;deed p good 4;did a p 8;");
    Checks.due("the ninth time", x.act(0, 0), 0);
    Checks.due("a tenth time", x.act(0, 0), 1);
    Checks.due("did", x.did(0, 0), 9);
    Checks.due("white", x.man(0, 1), 36);
    Checks.due("no man", x.act(1, 0), -1);
    Checks.due("no deed", x.act(0, 1), -1);
    Checks.due("below", x.act(-1, 0), -1);
    Checks.due("below", x.act(0, -1), -1);
  }

  private static void lending() {
    LikenessPound x = Checks.with("man a 1;man b 1;man c 1;deed p good 4;deed q crime 3;did a p 1;did b q 2;kin a b;");
    Checks.due("no kin", x.lend(0, 2, 0), 1);
    Checks.due("himself", x.lend(0, 0, 0), 1);
    Checks.due("not done", x.lend(0, 1, 1), 3);
    Checks.due("lent", x.lend(0, 1, 0), 0);
    Checks.due("no kin, the least", x.lend(0, 2, 1), 1);
    Checks.due("lends already", x.lend(0, 1, 1), 2);
    Checks.due("what is lent to him is not his", x.lend(1, 0, 0), 3);
    Checks.due("the other way", x.lend(1, 0, 1), 0);
    Checks.due("a white", x.man(0, 1), 0);
    Checks.due("a dark", x.man(0, 2), 3);
    Checks.due("b white", x.man(1, 1), 4);
    Checks.due("b dark", x.man(1, 2), 3);
    Checks.due("whom", x.man(1, 4), 0);
    Checks.due("which", x.man(1, 5), 1);
    Checks.due("no man", x.lend(3, 0, 0), -1);
    Checks.due("no man", x.lend(0, 3, 0), -1);
    Checks.due("no man", x.lend(0, -1, 0), -1);
    Checks.due("no deed", x.lend(0, 1, 2), -1);
    Checks.due("returned", x.back(1), 0);
    Checks.due("returned already", x.back(1), 1);
    Checks.due("never lent", x.back(2), 1);
    Checks.due("no man", x.back(3), -1);
    Checks.due("no man", x.back(-1), -1);
    Checks.due("b dark", x.man(1, 2), 6);
    Checks.due("whom", x.man(1, 4), -1);
    Checks.due("which", x.man(1, 5), -1);
    Checks.due("a lends still", x.man(0, 4), 1);
    Checks.due("a year", x.years(1), 1);
    Checks.due("a has it again", x.man(0, 1), 4);
    Checks.due("nobody lends", x.now(4), 0);
  }

  private static void debts() {
    LikenessPound x = Checks.with("man a 1;man b 1;owes a b 20;");
    Checks.due("of himself", x.borrow(0, 0, 1), 1);
    Checks.due("of himself", x.borrow(0, 0, 40), 1);
    Checks.due("60", x.borrow(0, 1, 40), 0);
    Checks.due("99", x.borrow(0, 1, 39), 0);
    Checks.due("100", x.borrow(0, 1, 1), 2);
    Checks.due("owes", x.owes(0, 1), 99);
    Checks.due("the other owes nothing", x.owes(1, 0), 0);
    Checks.due("dark", x.man(0, 2), 99);
    Checks.due("all he owes", x.man(0, 6), 99);
    for (int n : new int[] {0, -1, 41, Integer.MIN_VALUE, Integer.MAX_VALUE}) {
      Checks.due("borrow " + n, x.borrow(0, 1, n), -1);
      Checks.due("pay " + n, x.pay(0, 1, n), -1);
    }
    Checks.due("pay", x.pay(0, 1, 40), 0);
    Checks.due("pay", x.pay(0, 1, 40), 0);
    Checks.due("less is owed", x.pay(0, 1, 20), 1);
    Checks.due("all", x.pay(0, 1, 19), 0);
    Checks.due("nothing is owed", x.pay(0, 1, 1), 1);
    Checks.due("himself", x.pay(0, 0, 1), 1);
    Checks.due("owes", x.owes(0, 1), 0);
    Checks.due("no man", x.borrow(2, 0, 1), -1);
    Checks.due("no man", x.borrow(0, 2, 1), -1);
    Checks.due("no man", x.pay(-1, 0, 1), -1);
    Checks.due("no man", x.pay(0, -1, 1), -1);
  }

  private static void keeps(LikenessPound x, int m, int... due) {
    for (int what = 0; what < 4; what++) {
      Checks.due("kept(" + m + ", " + what + ")", x.kept(m, what), due[what]);
    }
  }

  private static void sitting() {
    LikenessPound x = Checks.with("man a 57;man b 60;man c 20;deed p good 4;deed q crime 3;did a p 2;did b q 1;kin a b;");
    keeps(x, 0, -1, -1, -1, -1);
    Checks.due("b lends a", x.lend(1, 0, 1), 0);
    x.years(1);
    Checks.due("b lends a", x.lend(1, 0, 1), 0);
    Checks.due("sits", x.sit(0), 0);
    keeps(x, 0, 8, 3, 1, 58);
    Checks.due("kept, what", x.kept(0, 4), -1);
    Checks.due("kept, what", x.kept(0, -1), -1);
    Checks.due("kept, no man", x.kept(3, 0), -1);
    Checks.due("kept, no man", x.kept(-1, 0), -1);
    Checks.due("sits again", x.sit(0), 1);
    x.act(0, 0);
    keeps(x, 0, 8, 3, 1, 58);
    Checks.due("b sits at 61", x.sit(1), 0);
    Checks.due("b sits again", x.sit(1), 1);
    x.years(1);
    Checks.due("at 59", x.sit(0), 1);
    x.years(1);
    Checks.due("at 60", x.sit(0), 0);
    keeps(x, 0, 12, 0, 3, 60);
    Checks.due("once more only", x.sit(0), 1);
    x.years(1);
    Checks.due("at 61", x.sit(0), 1);
    Checks.due("b was 61", x.sit(1), 1);
    Checks.due("how often", x.man(0, 7), 2);
    Checks.due("how often", x.man(1, 7), 1);
    Checks.due("sittings", x.now(7), 3);
    Checks.due("c sits", x.sit(2), 0);
    x.years(30);
    x.years(10);
    Checks.due("age", x.man(2, 0), 64);
    Checks.due("he may at 64, too", x.sit(2), 0);
    Checks.due("no man", x.sit(3), -1);
    Checks.due("no man", x.sit(-1), -1);
  }

  private static void years() {
    LikenessPound x = Checks.with("man a 90;man b 0;");
    Checks.due("years(0)", x.years(0), -1);
    Checks.due("years(31)", x.years(31), -1);
    Checks.due("years(-1)", x.years(-1), -1);
    for (int i = 0; i < 6; i++) {
      Checks.due("years(30)", x.years(30), 30);
    }
    Checks.due("to 199", x.years(19), 19);
    Checks.due("the last", x.years(30), 1);
    Checks.due("YEAR", x.now(0), 200);
    Checks.due("all are over", x.years(1), 0);
    Checks.due("age", x.man(0, 0), 290);
    Checks.due("age", x.man(1, 0), 200);
    Checks.due("none that went by nowhere is undone", x.undo(), 7);
    Checks.due("YEAR", x.now(0), 199);
  }

  private static void undoing() {
    LikenessPound x = Checks.with("man a 59;man b 1;deed p good 4;did a p 1;kin a b;owes a b 5;");
    x.lend(0, 1, 0);
    x.borrow(0, 1, 2);
    x.pay(0, 1, 1);
    x.sit(0);
    x.act(1, 0);
    x.back(0);
    x.years(2);
    x.act(0, 0);
    x.act(9, 9);
    x.pay(0, 1, 40);
    x.back(0);
    Checks.due("act", x.undo(), 7);
    Checks.due("did", x.did(0, 0), 1);
    Checks.due("years", x.undo(), 6);
    Checks.due("YEAR", x.now(0), 0);
    Checks.due("age", x.man(0, 0), 59);
    Checks.due("back", x.undo(), 5);
    Checks.due("lends again", x.man(0, 4), 1);
    Checks.due("act", x.undo(), 4);
    Checks.due("sit", x.undo(), 3);
    Checks.due("has not sat", x.kept(0, 0), -1);
    Checks.due("may sit", x.man(0, 7), 0);
    Checks.due("pay", x.undo(), 2);
    Checks.due("owes", x.owes(0, 1), 7);
    Checks.due("borrow", x.undo(), 1);
    Checks.due("owes", x.owes(0, 1), 5);
    Checks.due("lend", x.undo(), 0);
    Checks.due("lends none", x.man(0, 4), -1);
    Checks.due("none is left", x.undo(), -1);
    x.drawn(3, 5);
    Checks.book(x, "a does p;a does p;", 1);
    Checks.book(x, "a does p;", 0);
    Checks.book(x, "a does p;#", 1);
    Checks.due("a book that was lived", x.undo(), 1);
    Checks.due("YEAR", x.now(0), 3);
    Checks.due("drawn", x.undo(), 0);
    Checks.due("YEAR", x.now(0), 0);
    Checks.due("did", x.did(0, 0), 1);
    Checks.due("owes", x.owes(0, 1), 5);
  }

  private static void onlyEightAreKept() {
    LikenessPound x = Checks.with("man a 1;deed p good 4;deed q good 5;");
    for (int i = 0; i < 9; i++) {
      x.act(0, 0);
    }
    x.act(0, 1);
    Checks.due("one that was not done takes no place", x.act(0, 0), 1);
    for (int i = 7; i >= 0; i--) {
      Checks.due("undo()", x.undo(), i);
    }
    Checks.due("no more", x.undo(), -1);
    Checks.due("did", x.did(0, 0), 2);
    Checks.due("did", x.did(0, 1), 0);
    x.act(0, 1);
    Checks.due("again", x.undo(), 0);
    Checks.due("did", x.did(0, 1), 0);
  }
}
