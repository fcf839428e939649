/** Terms, ==== 2.: likenesses, acts and years, at the last that can be and the first that can't. */
public final class LifeEdgesTest {
  public static void main(String[] args) {
    nineTimes();
    lentDeeds();
    owedIsDark();
    faintSeenFull();
    faintAboveTheRoom();
    cells();
    cellsOfOne();
    toDo();
    toLend();
    toLendTheLeast();
    oneIsLent();
    toReturn();
    toBorrow();
    toPay();
    toSit();
    toSitOnceMore();
    aYearGoes();
    theLastYear();
    actsWhenAllAreOver();
    aNewColony();
    aCallThatThrows();
    Checks.finish("LifeEdgesTest");
  }

  private static void nineTimes() {
    Checks.about("A MAN has done each DEED so often (9 times at most)");
    LikenessPound x = Checks.with("man a 1;deed p good 4;deed q crime 3;did a p 9;");
    Checks.refused(x, Checks.call("act(0, 0)", () -> x.act(0, 0), 1));
    for (int n = 1; n <= 9; n++) {
      Checks.due("act(0, 1)", x.act(0, 1), 0);
      Checks.due("did(0, 1)", x.did(0, 1), n);
      Checks.due("WHITE", x.man(0, 1), 36);
      Checks.due("DARK", x.man(0, 2), 3 * n);
    }
    Checks.refused(x, Checks.call("act(0, 1)", () -> x.act(0, 1), 1));
    Checks.due("a BOOK", Checks.book(x, "a does p;", 1), 0);
    Checks.due("why", x.told(0), 1);
    for (int i = 0; i < 6; i++) {
      x.drawn(30, i);
    }
    Checks.due("did(0, 0) by draws", x.did(0, 0), 9);
    Checks.due("did(0, 1) by draws", x.did(0, 1), 9);
  }

  private static void lentDeeds() {
    Checks.about("what his good DEEDS weigh, those that he lends left out, those that are lent to him counted");
    LikenessPound x = Checks.with("man a 1;man b 1;man c 1;deed p good 4;deed q crime 3;did a p 2;did b q 1;did c p 1;"
        + "kin a b;kin b c;kin a c;");
    x.lend(0, 1, 0);
    sides(x, 0, 4, 0);
    sides(x, 1, 4, 3);
    x.lend(1, 0, 1);
    sides(x, 0, 4, 3);
    sides(x, 1, 4, 0);
    x.lend(2, 1, 0);
    sides(x, 1, 8, 0);
    sides(x, 2, 0, 0);
    Checks.due("all WHITE", x.now(5), 12);
    Checks.due("all DARK", x.now(6), 3);
    x.back(0);
    sides(x, 0, 8, 3);
    sides(x, 1, 4, 0);
  }

  private static void sides(LikenessPound x, int m, int white, int dark) {
    Checks.due("WHITE of " + m, x.man(m, 1), white);
    Checks.due("DARK of " + m, x.man(m, 2), dark);
  }

  private static void owedIsDark() {
    Checks.about("its DARK is what his CRIMES weigh, likewise, and all that he owes");
    LikenessPound x = Checks.with("man a 1;man b 1;man c 1;deed q crime 7;did a q 1;owes a b 40;owes a c 1;owes b a 2;");
    sides(x, 0, 0, 48);
    sides(x, 1, 0, 2);
    sides(x, 2, 0, 0);
    Checks.due("all that a owes", x.man(0, 6), 41);
    x.pay(0, 1, 40);
    sides(x, 0, 0, 8);
    x.pay(0, 2, 1);
    sides(x, 0, 0, 7);
    Checks.due("he owes nothing", x.man(0, 6), 0);
  }

  private static void faintSeenFull() {
    Checks.about("He is FAINT below 'faint', FULL above the ROOM of the plate, else SEEN");
    weights(10, 60);
    weights(0, 1);
    weights(1, 1);
    weights(1, 2);
    weights(60, 60);
    weights(60, 99);
    weights(0, 200);
  }

  /** Debts from 0 to 99 make every WEIGHT. */
  private static void weights(int faint, int room) {
    LikenessPound x = Checks.with("man a 1;man b 1;faint " + faint + ";plate " + room + ";");
    for (int weight = 0; weight <= 99; weight++) {
      int how = weight < faint ? 0 : weight <= room ? 1 : 2;
      String of = "of " + weight + ", faint " + faint + ", ROOM " + room;
      Checks.due("how he is " + of, x.man(0, 3), how);
      if (weight >= faint - 1 && weight <= faint || weight >= room && weight <= room + 1) {
        for (int who = 0; who < 3; who++) {
          Checks.due("now(" + (who + 1) + ") " + of, x.now(who + 1) & 1, who == how ? 1 : 0);
        }
      }
      Checks.due("borrow", x.borrow(0, 1, 1), weight < 99 ? 0 : 2);
    }
  }

  private static void faintAboveTheRoom() {
    Checks.about("He is FAINT below 'faint', FULL above the ROOM: 'faint' above the ROOM");
    LikenessPound x = Checks.with("man a 1;man b 1;faint 20;plate 5;owes a b 5;");
    int[] weights = {5, 6, 19, 20, 21};
    int[] hows = {0, 0, 0, 2, 2};
    for (int i = 0; i < 5; i++) {
      if (i > 0) {
        x.borrow(0, 1, weights[i] - weights[i - 1]);
      }
      Checks.due("how he is with " + weights[i], x.man(0, 3), hows[i]);
    }
  }

  private static void cells() {
    Checks.about("white below the WHITE; else dark, if they are among the last as many as the DARK; else clear");
    int[] rooms = {1, 2, 7, 40, 200};
    for (int room : rooms) {
      plate(room, 0, 0);
      plate(room, 1, 0);
      plate(room, 0, 1);
      plate(room, 1, 1);
      plate(room, 3, 2);
      plate(room, 5, 2);
      plate(room, 5, 3);
      plate(room, 39, 1);
      plate(room, 40, 1);
      plate(room, 1, 40);
      plate(room, 0, 40);
      plate(room, 20, 20);
      plate(room, 20, 21);
      plate(room, 40, 40);
    }
  }

  private static void plate(int room, int white, int dark) {
    LikenessPound x = Checks.with("plate " + room + ";man a 1;man b 1;"
        + (white > 0 ? "deed p good " + white + ";did a p 1;" : "") + (dark > 0 ? "owes a b " + dark + ";" : ""));
    String of = " of " + room + " with " + white + " and " + dark;
    Checks.due("cell -1" + of, x.cell(0, -1), -1);
    for (int k = 0; k < room; k++) {
      int fromBehind = room - k;
      Checks.due("cell " + k + of, x.cell(0, k), k < white ? 1 : fromBehind <= dark ? 2 : 0);
    }
    Checks.due("cell " + room + of, x.cell(0, room), -1);
  }

  private static void cellsOfOne() {
    Checks.about("Cells of a plate are as many as its ROOM, from 0");
    LikenessPound x = Checks.with("man a 1;plate 1;");
    Checks.due("cell(0, 0)", x.cell(0, 0), 0);
    Checks.due("cell(0, 1)", x.cell(0, 1), -1);
    LikenessPound y = Checks.with("man a 1;");
    Checks.due("cell(0, 59) of 60 without", y.cell(0, 59), 0);
    Checks.due("cell(0, 60) of 60 without", y.cell(0, 60), -1);
    LikenessPound z = Checks.with("man a 1;man b 1;deed p good 30;deed q crime 9;did a p 9;did a q 9;plate 200;owes a b 40;");
    Checks.due("WHITE above the ROOM", z.cell(0, 199), 1);
    Checks.due("no such MAN", z.cell(2, 0), -1);
  }

  private static void toDo() {
    Checks.about("To DO a DEED: why not: 1 he did it 9 times: once more");
    LikenessPound x = Checks.with("man a 1;man b 1;deed p good 4;deed q good 5;did a p 8;did b q 9;");
    Checks.due("the ninth", x.act(0, 0), 0);
    Checks.refused(x,
        Checks.call("the tenth", () -> x.act(0, 0), 1),
        Checks.call("b's tenth", () -> x.act(1, 1), 1));
    Checks.due("another MAN's first", x.act(1, 0), 0);
    Checks.due("another DEED", x.act(0, 1), 0);
    Checks.due("undo(): the three that were done", x.undo(), 2);
  }

  private static void toLend() {
    Checks.about("To LEND a DEED to a MAN: 1 they are no KIN (alike, too); 2 he lends one already; 3 he has not done it");
    LikenessPound x = Checks.with("man a 1;man b 1;man c 1;man d 1;deed p good 4;deed q crime 3;did a p 1;did b p 1;"
        + "kin a b;kin b c;");
    Checks.refused(x,
        Checks.call("no KIN", () -> x.lend(0, 3, 0), 1),
        Checks.call("of his FAMILY, but no KIN", () -> x.lend(0, 2, 0), 1),
        Checks.call("alike", () -> x.lend(0, 0, 0), 1),
        Checks.call("not done", () -> x.lend(0, 1, 1), 3));
    Checks.due("lend", x.lend(0, 1, 0), 0);
    Checks.due("the other way round, KIN in whatever order", x.lend(1, 0, 0), 0);
    Checks.refused(x,
        Checks.call("lends one already", () -> x.lend(0, 1, 0), 2),
        Checks.call("what is lent to his KIN is not his own", () -> x.lend(2, 1, 0), 3));
    Checks.due("who lends", x.now(4), 3);
  }

  private static void toLendTheLeast() {
    Checks.about("why not, the least");
    LikenessPound x = Checks.with("man a 1;man b 1;man c 1;deed p good 4;deed q crime 3;did a p 1;kin a b;");
    Checks.refused(x,
        Checks.call("1 and 3", () -> x.lend(0, 2, 1), 1),
        Checks.call("alike, and 3", () -> x.lend(0, 0, 1), 1));
    x.lend(0, 1, 0);
    Checks.refused(x,
        Checks.call("1 and 2", () -> x.lend(0, 2, 0), 1),
        Checks.call("1, 2 and 3", () -> x.lend(0, 2, 1), 1),
        Checks.call("alike, 2 and 3", () -> x.lend(0, 0, 1), 1),
        Checks.call("2 and 3", () -> x.lend(0, 1, 1), 2));
  }

  private static void oneIsLent() {
    Checks.about("one of it is lent (it stays his own)");
    LikenessPound x = Checks.with("man a 1;man b 1;deed p good 4;did a p 9;kin a b;");
    x.lend(0, 1, 0);
    Checks.due("did(0, 0)", x.did(0, 0), 9);
    Checks.due("did(1, 0)", x.did(1, 0), 0);
    Checks.due("how often all did it", x.deed(0, 2), 9);
    sides(x, 0, 32, 0);
    sides(x, 1, 4, 0);
    Checks.refused(x, Checks.call("a tenth time, while one is lent", () -> x.act(0, 0), 1));
    Checks.sentence(x, "has p");
    Checks.due("of how many it is said", x.said(-1), 1);
    Checks.due("of whom", x.said(0), 0);
  }

  private static void toReturn() {
    Checks.about("To RETURN: 1 he lends none: it is his again");
    LikenessPound x = Checks.with("man a 1;man b 1;deed p good 4;did a p 1;kin a b;");
    Checks.refused(x, Checks.call("none lent yet", () -> x.back(0), 1));
    x.lend(0, 1, 0);
    Checks.refused(x, Checks.call("he to whom it is lent", () -> x.back(1), 1));
    Checks.due("back", x.back(0), 0);
    sides(x, 0, 4, 0);
    sides(x, 1, 0, 0);
    Checks.refused(x, Checks.call("once more", () -> x.back(0), 1));
    Checks.due("it can be lent again", x.lend(0, 1, 0), 0);
    x.years(1);
    Checks.refused(x, Checks.call("the YEAR returned it", () -> x.back(0), 1));
  }

  private static void toBorrow() {
    Checks.about("To BORROW n of a MAN: 1 they are alike; 2 he would owe him more than 99");
    for (int told = 20; told <= 40; told += 10) {
      LikenessPound x = Checks.with("man a 1;man b 1;man c 1;owes a b " + told + ";");
      Checks.refused(x, Checks.call("alike", () -> x.borrow(0, 0, 1), 1));
      Checks.due("40 more", x.borrow(0, 1, 40), 0);
      int left = 99 - 40 - told;
      if (left < 40) {
        Checks.refused(x, Checks.call("to 100", () -> x.borrow(0, 1, left + 1), 2));
      }
      Checks.due("to 99", x.borrow(0, 1, left), 0);
      Checks.refused(x,
          Checks.call("from 99", () -> x.borrow(0, 1, 1), 2),
          Checks.call("from 99", () -> x.borrow(0, 1, 40), 2));
      Checks.due("owes", x.owes(0, 1), 99);
    }
    LikenessPound x = Checks.with("man a 1;man b 1;man c 1;");
    for (int k = 1; k <= 2; k++) {
      x.borrow(0, k, 40);
      x.borrow(0, k, 40);
      Checks.due("99 of each", x.borrow(0, k, 19), 0);
    }
    Checks.due("all that he owes", x.man(0, 6), 198);
    Checks.due("the other way", x.borrow(1, 0, 40), 0);
    Checks.due("not taken from it", x.owes(0, 1), 99);
    Checks.refused(x, Checks.call("alike, ahead of too much", () -> x.borrow(0, 0, 40), 1));
  }

  private static void toPay() {
    Checks.about("To PAY n: 1 he owes him less: so much less");
    LikenessPound x = Checks.with("man a 1;man b 1;man c 1;owes a b 7;owes a c 40;");
    Checks.refused(x,
        Checks.call("one more than he owes", () -> x.pay(0, 1, 8), 1),
        Checks.call("the other way", () -> x.pay(1, 0, 1), 1),
        Checks.call("himself", () -> x.pay(0, 0, 1), 1));
    Checks.due("some", x.pay(0, 1, 6), 0);
    Checks.refused(x, Checks.call("one more than is left", () -> x.pay(0, 1, 2), 1));
    Checks.due("all", x.pay(0, 1, 1), 0);
    Checks.due("owes", x.owes(0, 1), 0);
    Checks.refused(x, Checks.call("he owes nothing", () -> x.pay(0, 1, 1), 1));
    Checks.due("all at once", x.pay(0, 2, 40), 0);
    Checks.due("owes", x.man(0, 6), 0);
  }

  private static void toSit() {
    Checks.about("To SIT: 1 he has sat: his LIKENESS is kept as it is");
    LikenessPound x = Checks.with("man a 20;man b 1;deed p good 4;deed q crime 3;did a p 2;did b q 1;kin a b;owes a b 5;");
    Checks.due("kept ahead", x.kept(0, 0), -1);
    x.years(1);
    x.lend(1, 0, 1);
    x.lend(0, 1, 0);
    Checks.due("sit", x.sit(0), 0);
    kept(x, 0, 4, 8, 1, 21);
    Checks.refused(x, Checks.call("once more", () -> x.sit(0), 1));
    x.act(0, 0);
    x.back(0);
    x.pay(0, 1, 5);
    x.years(5);
    kept(x, 0, 4, 8, 1, 21);
    Checks.refused(x, Checks.call("younger than 60", () -> x.sit(0), 1));
    Checks.due("how often", x.man(0, 7), 1);
    Checks.due("another MAN", x.sit(1), 0);
    Checks.due("sittings", x.now(7), 2);
  }

  private static void kept(LikenessPound x, int m, int... due) {
    for (int what = 0; what < 4; what++) {
      Checks.due("kept(" + m + ", " + what + ")", x.kept(m, what), due[what]);
    }
  }

  private static void toSitOnceMore() {
    Checks.about("he may once more, when he is 60, if he was younger when he sat last");
    LikenessPound x = Checks.with("man a 59;man b 60;man c 58;");
    for (int m = 0; m < 3; m++) {
      Checks.due("the first time", x.sit(m), 0);
    }
    Checks.refused(x,
        Checks.call("again at 59", () -> x.sit(0), 1),
        Checks.call("again at 60", () -> x.sit(1), 1),
        Checks.call("again at 58", () -> x.sit(2), 1));
    x.years(1);
    Checks.due("at 60, sat at 59", x.sit(0), 0);
    kept(x, 0, 0, 0, 1, 60);
    Checks.refused(x,
        Checks.call("sat at 60 last", () -> x.sit(0), 1),
        Checks.call("sat at 60", () -> x.sit(1), 1),
        Checks.call("at 59", () -> x.sit(2), 1));
    x.years(1);
    Checks.due("at 60, sat at 58", x.sit(2), 0);
    Checks.due("twice is all", x.sit(0), 1);
    x.years(30);
    for (int m = 0; m < 3; m++) {
      Checks.due("much later", x.sit(m), 1);
      Checks.due("how often", x.man(m, 7), m == 1 ? 1 : 2);
    }
    Checks.due("sittings", x.now(7), 5);
    LikenessPound y = Checks.with("man a 0;");
    y.sit(0);
    y.years(30);
    y.years(29);
    Checks.refused(y, Checks.call("at 59, sat at 0", () -> y.sit(0), 1));
    y.years(1);
    Checks.due("at 60, sat at 0", y.sit(0), 0);
    kept(y, 0, 0, 0, 60, 60);
    LikenessPound z = Checks.with("man a 59;");
    z.sit(0);
    z.years(2);
    Checks.due("at 61, sat at 59", z.sit(0), 0);
    kept(z, 0, 0, 0, 2, 61);
  }

  private static void aYearGoes() {
    Checks.about("A YEAR goes: each MAN is a year older; all that is lent is returned. It is the next YEAR");
    LikenessPound x = Checks.with("man a 0;man b 90;man c 7;deed p good 4;deed q crime 5;did a p 1;did b q 2;kin a b;kin b c;"
        + "owes c a 3;");
    x.lend(0, 1, 0);
    x.lend(1, 2, 1);
    Checks.due("who lends", x.now(4), 3);
    Checks.due("years(1)", x.years(1), 1);
    Checks.due("who lends", x.now(4), 0);
    Checks.due("the YEAR", x.now(0), 1);
    sides(x, 0, 4, 0);
    sides(x, 1, 0, 10);
    sides(x, 2, 0, 3);
    int[] ages = {1, 91, 8};
    for (int m = 0; m < 3; m++) {
      Checks.due("AGE", x.man(m, 0), ages[m]);
      Checks.due("whom he lends", x.man(m, 4), -1);
      Checks.due("which", x.man(m, 5), -1);
    }
  }

  private static LikenessPound inYear(String colony, int year) {
    LikenessPound x = Checks.with(colony);
    while (x.now(0) < year) {
      x.years(Math.min(30, year - x.now(0)));
    }
    return x;
  }

  private static void theLastYear() {
    Checks.about("A YEAR (0 to 199; 200: all are over)");
    String colony = "man a 90;man b 0;deed p good 4;did a p 1;kin a b;";
    LikenessPound x = inYear(colony, 198);
    Checks.due("to 199", x.years(1), 1);
    Checks.due("the YEAR", x.now(0), 199);
    x.lend(0, 1, 0);
    Checks.due("to 200", x.years(1), 1);
    Checks.due("the YEAR", x.now(0), 200);
    Checks.due("who lends", x.now(4), 0);
    x.lend(0, 1, 0);
    Checks.refused(x,
        Checks.call("years(1)", () -> x.years(1), 0),
        Checks.call("years(30)", () -> x.years(30), 0),
        Checks.call("drawn(1, 1)", () -> x.drawn(1, 1), 0),
        Checks.call("drawn(30, 1)", () -> x.drawn(30, 1), 0));
    Checks.due("AGE", x.man(0, 0), 290);
    Checks.due("AGE", x.man(1, 0), 200);
    LikenessPound y = inYear(colony, 171);
    Checks.due("29 are left", y.years(30), 29);
    Checks.due("the YEAR", y.now(0), 200);
    LikenessPound z = inYear(colony, 170);
    Checks.due("30 are left", z.years(30), 30);
    Checks.due("the YEAR", z.now(0), 200);
    LikenessPound w = inYear(colony, 171);
    Checks.due("a BOOK's 30 with 29 left", Checks.book(w, "year 30;", 1), 0);
    Checks.due("why", w.told(0), 61);
    Checks.due("none of them goes", w.now(0), 171);
    Checks.due("a BOOK's 29", Checks.book(w, "year 29;", 1), -1);
    Checks.due("the YEAR", w.now(0), 200);
    Checks.due("one more", Checks.book(w, "year 1;", 1), 0);
    Checks.due("why", w.told(0), 61);
    LikenessPound v = inYear(colony, 171);
    Checks.due("drawn(30, 5) with 29 left", v.drawn(30, 5), 29);
    Checks.due("the YEAR", v.now(0), 200);
  }

  private static void actsWhenAllAreOver() {
    Checks.about("200: all are over: acts are not told to end with the YEARS");
    LikenessPound x = inYear("man a 90;man b 0;deed p good 4;did a p 1;kin a b;", 200);
    Checks.due("act", x.act(0, 0), 0);
    Checks.due("lend", x.lend(0, 1, 0), 0);
    Checks.due("back", x.back(0), 0);
    Checks.due("borrow", x.borrow(0, 1, 40), 0);
    Checks.due("pay", x.pay(0, 1, 40), 0);
    Checks.due("sit", x.sit(0), 0);
    kept(x, 0, 8, 0, 200, 290);
    Checks.due("a BOOK", Checks.book(x, "b does p;", 1), -1);
    Checks.due("the YEAR", x.told(2), 200);
  }

  private static void aNewColony() {
    Checks.about("A new COLONY: YEAR 0, nothing lent, nobody has sat, no SENTENCE");
    String colony = "man a 59;man b 5;deed p good 4;deed q crime 5;did a p 1;kin a b;owes a b 3;plate 30;faint 4;";
    LikenessPound x = Checks.with(colony);
    String shown = Checks.shown(x);
    x.act(1, 1);
    x.borrow(1, 0, 9);
    x.sit(0);
    x.years(3);
    x.lend(0, 1, 0);
    Checks.sentence(x, "seen");
    Checks.due("the same text again", Checks.colony(x, colony), 9);
    Checks.dueText("what is so", Checks.shown(x), shown);
    Checks.due("the YEAR", x.now(0), 0);
    Checks.due("who lends", x.now(4), 0);
    Checks.due("sittings", x.now(7), 0);
    Checks.due("kept", x.kept(0, 0), -1);
    Checks.due("no SENTENCE", x.said(-1), -1);
    Checks.due("nothing can be undone", x.undo(), -1);
    Checks.due("he may sit", x.sit(0), 0);
    Checks.due("fewer MEN and DEEDS", Checks.colony(x, "man z 7;"), 1);
    Checks.due("did of none", x.did(0, 0), -1);
    Checks.due("kin of one", x.kin(0), 0);
    Checks.due("owes himself nothing", x.owes(0, 0), 0);
    Checks.due("ROOM", x.count(2), 60);
    Checks.due("faint", x.count(3), 10);
    Checks.due("more of both", Checks.colony(x, "man z 7;man y 8;deed o good 1;deed n good 2;"), 4);
    for (int i = 0; i < 4; i++) {
      Checks.due("did, 0 without", x.did(i / 2, i % 2), 0);
      Checks.due("owes, 0 without", x.owes(i / 2, i % 2), 0);
    }
  }

  private static void aCallThatThrows() {
    Checks.about("A call that throws changes nothing");
    LikenessPound x = Checks.with("man a 59;man b 5;deed p good 4;did a p 1;kin a b;");
    Checks.sentence(x, "has p");
    x.act(1, 0);
    x.lend(0, 1, 0);
    x.help(0);
    x.caption(0);
    x.career(0, 1);
    Checks.book(x, "a sits;", 0);
    Checks.tape(x, "abc");
    String shown = Checks.shown(x);
    String told = Checks.toldLast(x);
    int[] wrongs = {-1, 2, 7, 8, Integer.MIN_VALUE, Integer.MAX_VALUE};
    for (int wrong : wrongs) {
      Checks.dueNoSuch(x, wrong, 0);
      Checks.dueNoSuch(x, wrong, 7);
      Checks.dueNoSuch(x, wrong, wrong);
      if (wrong < 0 || wrong > 7) {
        Checks.dueNoSuch(x, 0, wrong);
        Checks.dueNoSuch(x, 1, wrong);
      }
    }
    Checks.dueText("what is so", Checks.shown(x), shown);
    Checks.dueText("what was told last", Checks.toldLast(x), told);
    Checks.due("the tape", x.count(4), 3);
    Checks.due("fault()", x.fault(), 0);
    Checks.due("undo()", x.undo(), 1);
    Checks.due("undo()", x.undo(), 0);
  }
}
