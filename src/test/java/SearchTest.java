/** Promises 24 to 30: help, what one may have done, careers, how no crime is seen. */
public final class SearchTest {
  public static void main(String[] args) {
    help();
    helpOfLenders();
    may();
    mayEdges();
    mayOfAnotherColony();
    career();
    careerEdges();
    careerOfAnotherColony();
    hide();
    Checks.finish("SearchTest");
  }

  private static void help() {
    LikenessPound x = Checks.with("man a 1;man b 1;man c 1;man d 1;man e 1;deed p good 6;deed q crime 7;deed r good 3;"
        + "did b p 2;did c q 2;did d p 3;did e q 9;kin a b;kin a c;kin d a;faint 10;");
    Checks.due("helping() ahead of any", x.helping(), -1);
    // b (12) may lend none of his without being faint, c (14) neither; d (18) may lend p.
    Checks.due("not by all", x.help(0), -1);
    Checks.due("helping() behind NONE", x.helping(), -1);
    Checks.due("not faint", x.help(1), 0);
    Checks.due("nobody", x.helping(), 0);
    x.act(1, 2);
    x.act(1, 2);
    // b has 18: p or r may go, p weighs more.
    Checks.due("two by six each", x.help(0), 2);
    Checks.due("b and d", x.helping(), 10);
    x.act(2, 1);
    // c has 21 and may lend 7: of pairs the least as bits.
    Checks.due("two of three", x.help(0), 2);
    Checks.due("b and c", x.helping(), 6);
    x.act(0, 2);
    Checks.due("one is enough", x.help(0), 1);
    Checks.due("c alone, by a crime", x.helping(), 4);
    x.lend(2, 0, 1);
    Checks.due("he is seen", x.help(0), 0);
    Checks.due("nobody", x.helping(), 0);
    x.borrow(0, 1, 40);
    x.back(2);
    Checks.due("debts count", x.help(0), 0);
    x.pay(0, 1, 40);
    x.lend(2, 0, 1);
    x.undo();
    Checks.due("as ahead", x.help(0), 1);
    Checks.due("no such", x.help(5), -1);
    Checks.due("no such", x.help(-1), -1);
    Checks.due("the latest stays", x.helping(), 4);
  }

  private static void helpOfLenders() {
    LikenessPound x = Checks.with("man a 1;man b 1;man c 1;deed p good 5;deed q good 4;did b p 1;did b q 1;did c p 9;"
        + "kin a b;kin a c;kin b c;faint 20;");
    // b is faint himself, so any of his may go; c keeps 40.
    Checks.due("5 and 5 are not 20", x.help(0), -1);
    LikenessPound y = Checks.with("man a 1;man b 1;man c 1;deed p good 5;deed q good 4;did b p 1;did b q 1;did c p 9;"
        + "kin a b;kin a c;kin b c;faint 10;");
    // With faint 10: b has 9 and is faint: he lends p.
    Checks.due("both", y.help(0), 2);
    Checks.due("b and c", y.helping(), 6);
    y.lend(2, 1, 0);
    Checks.due("c lends now", y.help(0), -1);
    y.back(2);
    y.lend(1, 2, 1);
    Checks.due("b lends now", y.help(0), -1);
  }

  private static long mayOf(LikenessPound x, int white, int dark) {
    x.feed(white << 24 | dark << 16, 0, 0, 0, 0);
    x.end(2);
    return x.may();
  }

  private static void row(LikenessPound x, int... due) {
    for (int d = 0; d < due.length; d++) {
      Checks.due("mayBe(" + d + ")", x.mayBe(d), due[d]);
    }
    Checks.due("mayBe behind the last", x.mayBe(due.length), -1);
    Checks.due("mayBe(-1)", x.mayBe(-1), -1);
  }

  private static void may() {
    LikenessPound x = Checks.with("deed a good 2;deed b crime 3;deed c good 3;deed d good 6;deed e crime 9;");
    Checks.due("mayBe ahead of any", x.mayBe(0), -1);
    // white 12: d2; d1c2; d1a3; c4; c2a3; a6 - dark 9: e1 or b3.
    Checks.due("rows", mayOf(x, 12, 9), 12);
    row(x, 0, 0, 0, 2, 1);
    Checks.due("the tape", x.count(4), 0);
    Checks.due("nothing", mayOf(x, 0, 0), 1);
    row(x, 0, 0, 0, 0, 0);
    Checks.due("none", mayOf(x, 1, 0), 0);
    Checks.due("none", mayOf(x, 12, 4), 0);
    row(x, 0, 0, 0, 0, 0);
    // 5 is a and c; 27 is 3 e.
    Checks.due("5 and 27", mayOf(x, 5, 27), 4);
    row(x, 1, 0, 1, 0, 3);
    // Of like ones the first: by two of a like weight the later one.
    LikenessPound y = Checks.with("deed a good 4;deed b good 4;deed c good 8;deed d good 6;deed e good 2;");
    // c; aa, ab, bb; aee, bee; de; eeee.
    Checks.due("8", mayOf(y, 8, 0), 8);
    row(y, 0, 0, 1, 0, 0);
    mayOf(y, 10, 0);
    row(y, 0, 0, 1, 0, 1);
  }

  private static void mayEdges() {
    LikenessPound x = Checks.with("deed a good 1;deed b good 1;deed c good 1;deed d good 1;deed e good 1;deed f good 1;"
        + "deed g good 1;deed h good 1;deed i good 1;deed j good 1;");
    // The middle of (1 + .. + t^9)^10.
    Checks.due("many rows", mayOf(x, 45, 0), 432457640L);
    row(x, 0, 0, 0, 0, 0, 9, 9, 9, 9, 9);
    Checks.due("each 9 times", mayOf(x, 90, 0), 1);
    Checks.due("more than all", mayOf(x, 91, 0), 0);
    LikenessPound y = Checks.with("deed a good 40;deed b crime 31;deed c good 15;deed d crime 7;");
    Checks.due("bytes above 127", mayOf(y, 255, 255), 2);
    // 255: 40 * 6 + 15, 40 * 3 + 15 * 9 - dark: 31 * 8 + 7.
    row(y, 6, 8, 1, 1);
    Checks.due("no bytes", y.may(), -1);
    for (int n : new int[] {1, 3, 20}) {
      y.feed(0, 0, 0, 0, 0);
      y.end(n);
      Checks.due(n + " bytes", y.may(), -1);
      Checks.due("the tape then", y.count(4), 0);
    }
    row(y, 6, 8, 1, 1);
  }

  /** What may() told is of the colony that was then, whatever colony comes afterwards. */
  private static void mayOfAnotherColony() {
    LikenessPound x = Checks.with("");
    Checks.due("a row without deeds", mayOf(x, 0, 0), 1);
    row(x);
    Checks.colony(x, "deed a good 2;deed b crime 3;deed c good 5;");
    row(x);
    Checks.due("two and three", mayOf(x, 2, 3), 1);
    row(x, 1, 1, 0);
    x.image(0);
    Checks.colony(x, "deed a good 7;");
    row(x, 1, 1, 0);
    Checks.due("no rows", mayOf(x, 1, 0), 0);
    row(x, 1, 1, 0);
    Checks.due("a row of one deed", mayOf(x, 14, 0), 1);
    row(x, 2);
    x.restore(0);
    row(x, 2);
    Checks.colony(x, "");
    row(x, 2);
    mayOf(x, 0, 0);
    row(x);
  }

  private static void careers(LikenessPound x, int... due) {
    for (int d = 0; d < due.length; d++) {
      Checks.due("careerOf(" + d + ")", x.careerOf(d), due[d]);
    }
    Checks.due("careerOf behind the last", x.careerOf(due.length), -1);
    Checks.due("careerOf(-1)", x.careerOf(-1), -1);
  }

  private static void career() {
    LikenessPound x = Checks.with("man a 1;man b 1;deed p good 3;deed q good 12;deed r crime 7;deed s crime 12;"
        + "did a p 8;plate 50;");
    Checks.due("careerOf ahead of any", x.careerOf(0), -1);
    // 24 so far, 26 more at most.
    Checks.due("none", x.career(0, 0), 24);
    careers(x, 0, 0, 0, 0);
    Checks.due("one", x.career(0, 1), 36);
    careers(x, 0, 0, 0, 1);
    Checks.due("two", x.career(0, 2), 48);
    careers(x, 0, 0, 0, 2);
    // 26 is 12 + 7 + 7.
    Checks.due("three", x.career(0, 3), 50);
    careers(x, 0, 0, 2, 1);
    Checks.due("ten", x.career(0, 10), 50);
    careers(x, 0, 0, 2, 1);
    Checks.due("all stays", x.did(0, 2), 0);
    Checks.due("11", x.career(0, 11), -1);
    Checks.due("-1", x.career(0, -1), -1);
    Checks.due("no man", x.career(2, 1), -1);
    Checks.due("no man", x.career(-1, 1), -1);
    careers(x, 0, 0, 2, 1);
    x.borrow(0, 1, 27);
    Checks.due("above the room", x.career(0, 1), -1);
    careers(x, 0, 0, 2, 1);
  }

  private static void careerEdges() {
    // 9 times at most: of p two more, of q nine.
    LikenessPound x = Checks.with("man a 1;man b 1;deed p good 20;deed q crime 1;did a p 7;plate 200;kin a b;");
    Checks.due("p twice, then q", x.career(0, 10), 188);
    careers(x, 2, 8);
    x.lend(0, 1, 0);
    // What he lends is left out of his weight, and he did it all the same.
    Checks.due("with one lent", x.career(0, 10), 168);
    careers(x, 2, 8);
    LikenessPound y = Checks.with("man a 1;plate 1;");
    Checks.due("no deeds", y.career(0, 10), 0);
    Checks.due("careerOf without deeds", y.careerOf(0), -1);
    LikenessPound z = Checks.with("man a 1;deed p good 1;did a p 5;plate 5;");
    Checks.due("just full", z.career(0, 5), 5);
    careers(z, 0);
  }

  /** What career() told is of the colony that was then, whatever colony comes afterwards. */
  private static void careerOfAnotherColony() {
    LikenessPound x = Checks.with("man a 1;");
    Checks.due("without deeds", x.career(0, 3), 0);
    careers(x);
    Checks.colony(x, "man a 1;deed p good 5;deed q crime 4;deed r good 1;plate 9;");
    careers(x);
    Checks.due("p and q", x.career(0, 3), 9);
    careers(x, 1, 1, 0);
    x.image(1);
    Checks.colony(x, "man a 1;deed p good 8;plate 30;");
    careers(x, 1, 1, 0);
    Checks.due("no such man", x.career(1, 3), -1);
    careers(x, 1, 1, 0);
    Checks.due("p thrice", x.career(0, 10), 24);
    careers(x, 3);
    x.restore(1);
    careers(x, 3);
    Checks.colony(x, "");
    careers(x, 3);
  }

  private static void hide() {
    LikenessPound x = Checks.with("man a 1;man b 1;man c 1;man d 1;deed p good 12;deed q good 3;deed r crime 7;"
        + "did a p 2;did a r 1;did b q 1;did c r 9;did c p 9;did c q 8;did d r 1;did d p 6;plate 40;");
    Checks.due("16 more", x.hide(0), 2);
    Checks.due("no crime", x.hide(1), 0);
    Checks.due("white over the room", x.hide(2), 0);
    Checks.due("white over the room", x.hide(3), 0);
    Checks.due("no such", x.hide(4), -1);
    Checks.due("no such", x.hide(-1), -1);
    x.borrow(1, 0, 1);
    Checks.due("debts are dark: 37 more", x.hide(1), 4);
    LikenessPound y = Checks.with("man a 1;deed p good 5;deed q good 2;deed r crime 1;did a p 7;did a r 1;plate 62;");
    // 35 white; 5 twice and 2 nine times make 63.
    Checks.due("27 more", y.hide(0), 11);
    y.act(0, 1);
    Checks.due("25 more", y.hide(0), 10);
    LikenessPound z = Checks.with("man a 1;deed p good 5;deed r crime 1;did a p 7;did a r 1;plate 46;");
    Checks.due("not by all", z.hide(0), -1);
    LikenessPound w = Checks.with("man a 1;deed p good 5;deed r crime 1;did a p 7;did a r 1;plate 45;");
    Checks.due("just by all", w.hide(0), 2);
    Checks.due("all stays", w.did(0, 0), 7);
  }
}
