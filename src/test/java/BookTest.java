/** Promises 36 and 37: books, their faults, what was wrong in them. */
public final class BookTest {
  private static final String COLONY = "man a 58;man b 20;man c 5;deed p good 6;deed q crime 4;did a p 8;did b q 1;kin a b;"
      + "owes b a 10;plate 60;faint 10;";

  public static void main(String[] args) {
    faults();
    longBooks();
    judged();
    wrongs();
    livedAsFar();
    Checks.finish("BookTest");
  }

  private static void fault(String text, int kind, int place) {
    LikenessPound x = Checks.with(COLONY);
    Checks.due("book '" + text + "'", Checks.book(x, text, 1), -2 - place);
    Checks.due("fault of '" + text + "'", x.fault(), kind);
    Checks.due("the tape", x.count(4), 0);
    Checks.due("told stays", x.told(0), -1);
    Checks.due("nothing was lived", x.undo(), -1);
    Checks.due("did", x.did(0, 0), 8);
  }

  private static void faults() {
    fault("a", 1, 1);
    fault("a does", 1, 6);
    fault("a does p", 1, 8);
    fault("a does p;;", 1, 9);
    fault("; a does p;", 1, 0);
    fault("a p;", 1, 2);
    fault("a did p;", 1, 2);
    fault("does p;", 1, 0);
    fault("man a 5;", 1, 0);
    fault("z does p;", 3, 0);
    fault("p does p;", 3, 0);
    fault("a does a;", 3, 7);
    fault("a does z;", 3, 7);
    fault("a does 1;", 1, 7);
    fault("a lends p b;", 3, 8);
    fault("a lends b b;", 3, 10);
    fault("a lends b;", 1, 9);
    fault("a returns p;", 1, 10);
    fault("a borrows b 0;", 2, 12);
    fault("a borrows b 41;", 2, 12);
    fault("a pays b 0;", 2, 9);
    fault("a pays b 41;", 2, 9);
    fault("a pays 4 b;", 1, 7);
    fault("a sits b;", 1, 7);
    fault("year 0;", 2, 5);
    fault("year 31;", 2, 5);
    fault("year a;", 1, 5);
    fault("years 3;", 3, 0);
    fault("a does p;a does p;a does p;#", 1, 27);
    fault("a sits;\nA", 1, 8);
  }

  private static String times(String line, int n) {
    StringBuilder all = new StringBuilder();
    for (int i = 0; i < n; i++) {
      all.append(line);
    }
    return all.toString();
  }

  private static void longBooks() {
    String forty = times("year 1;", 40);
    LikenessPound x = Checks.with(COLONY);
    Checks.due("40 lines", Checks.book(x, forty, 0), -1);
    Checks.due("lines", x.told(1), 40);
    Checks.due("year", x.told(2), 40);
    fault(forty + "year 1;", 4, 280);
    fault(forty + " a does p;", 4, 281);
    fault(forty + "year 99;", 4, 280);
    fault(forty + "z does p;", 3, 280);
    fault(forty + "p does p;", 3, 280);
    fault(forty + "does p;", 1, 280);
    fault(forty + ";", 1, 280);
    fault(forty + "7;", 1, 280);
    String blanks = times(" ", 393);
    LikenessPound y = Checks.with(COLONY);
    Checks.due("400 bytes", Checks.book(y, blanks + "a sits;", 0), -1);
    Checks.due("lines", y.told(1), 1);
    fault(blanks + "a sits; ", 1, 400);
    fault(blanks + "a returns;", 1, 400);
    fault(blanks + "a does pppppppp;", 1, 400);
    fault(blanks + "a does;", 1, 399);
    fault(blanks + "a zzzzzzz;", 1, 395);
    fault(blanks + "      z does p;", 3, 399);
    fault(blanks + "       z does p;", 1, 400);
  }

  private static void toldIs(LikenessPound x, int... due) {
    for (int what = 0; what < 4; what++) {
      Checks.due("told(" + what + ")", x.told(what), due[what]);
    }
    Checks.due("told(-1)", x.told(-1), -1);
    Checks.due("told(4)", x.told(4), -1);
  }

  private static void judged() {
    LikenessPound x = Checks.with(COLONY);
    toldIs(x, -1, -1, -1, -1);
    Checks.due("no lines", Checks.book(x, "", 0), -1);
    toldIs(x, 0, 0, 0, 3);
    Checks.due("judged", Checks.book(x, "a lends b p; year 3; c does p; c does p; a sits;", 0), -1);
    toldIs(x, 0, 5, 3, 7);
    Checks.due("all stays", x.now(0), 0);
    Checks.due("all stays", x.now(7), 0);
    Checks.due("all stays", x.did(2, 0), 0);
    Checks.due("nothing to undo", x.undo(), -1);
    Checks.due("a fault", Checks.book(x, "a sits;;", 0), -9);
    toldIs(x, 0, 5, 3, 7);
    Checks.tape(x, "b sits;");
    for (int lives : new int[] {-1, 2, Integer.MAX_VALUE, Integer.MIN_VALUE}) {
      Checks.due("lives " + lives, x.book(lives), -1000);
    }
    Checks.due("the tape stays", x.count(4), 7);
    Checks.due("the fault stays", x.fault(), 1);
    toldIs(x, 0, 5, 3, 7);
    Checks.due("the tape is read then", x.book(1), -1);
    Checks.due("no fault then", x.fault(), 0);
    Checks.due("he sat", x.man(1, 7), 1);
  }

  private static void wrong(String text, int line, int why) {
    LikenessPound x = Checks.with(COLONY);
    Checks.due("book '" + text + "'", Checks.book(x, text, 0), line);
    Checks.due("why in '" + text + "'", x.told(0), why);
    Checks.due("lines in '" + text + "'", x.told(1), line);
    Checks.due("no fault in '" + text + "'", x.fault(), 0);
  }

  private static void wrongs() {
    wrong("a does p;a does p;a does p;", 1, 1);
    wrong("a lends c p;", 0, 11);
    wrong("a lends a p;", 0, 11);
    wrong("a lends b p;a lends b q;", 1, 12);
    wrong("a lends b q;", 0, 13);
    wrong("a returns;", 0, 21);
    wrong("a lends b p;a returns;a returns;", 2, 21);
    wrong("a lends b p;year 1;a returns;", 2, 21);
    wrong("a borrows a 1;", 0, 31);
    wrong("b borrows a 40;b borrows a 40;b borrows a 10;", 2, 32);
    wrong("b pays a 10;b pays a 1;", 1, 41);
    wrong("a pays a 1;", 0, 41);
    wrong("a sits;year 1;a sits;", 2, 51);
    wrong("a sits;year 2;a sits;a sits;", 3, 51);
    wrong("year 30;year 30;year 30;year 30;year 30;year 30;year 20;year 1;", 7, 61);
    wrong("year 30;year 30;year 30;year 30;year 30;year 30;year 21;", 6, 61);
  }

  private static void livedAsFar() {
    LikenessPound x = Checks.with(COLONY);
    Checks.due("wrong", Checks.book(x, "a does p;c does q;year 2;a does p;c does q;", 1), 3);
    toldIs(x, 1, 3, 2, 3);
    Checks.due("did", x.did(0, 0), 9);
    Checks.due("did", x.did(2, 1), 1);
    Checks.due("YEAR", x.now(0), 2);
    Checks.due("age", x.man(1, 0), 22);
    Checks.due("undone as one", x.undo(), 0);
    Checks.due("did", x.did(0, 0), 8);
    Checks.due("did", x.did(2, 1), 0);
    Checks.due("YEAR", x.now(0), 0);
    for (int i = 0; i < 6; i++) {
      x.years(30);
    }
    x.years(5);
    Checks.due("fewer are left", Checks.book(x, "year 16;", 1), 0);
    toldIs(x, 61, 0, 185, 3);
    Checks.due("none goes by", x.now(0), 185);
    Checks.due("just as many", Checks.book(x, "year 15;", 1), -1);
    toldIs(x, 0, 1, 200, 3);
  }
}
