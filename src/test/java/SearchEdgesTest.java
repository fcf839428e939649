/** Terms, ==== 3.: families, searches, captions and draws, at the last that is as told and the first that is not. */
public final class SearchEdgesTest {
  private static long drawnSeed;

  public static void main(String[] args) {
    families();
    helpAtFaint();
    helpOfKinAlone();
    helpOfThoseWhoLendNone();
    helpKeepsTheLender();
    helpOfAFaintLender();
    helpByWhatWeighsMost();
    helpByTheFewest();
    helpByTheLeastBits();
    helpNotByAll();
    mayAsTold();
    mayNineTimes();
    maySides();
    mayTheFewest();
    mayTheFirst();
    mayWithoutDeeds();
    careerYears();
    careerRoom();
    careerNineTimes();
    careerTheFewest();
    careerTheFirst();
    careerLent();
    careerOfAllOver();
    hideNoDark();
    hideWhite();
    hideNineTimes();
    hideNotByAll();
    captions();
    drawsWrap();
    drawsWithoutSome();
    Checks.finish("SearchEdgesTest");
  }

  private static void families() {
    Checks.about("FAMILY: whom one is kin to, and whom these are, and so on; himself");
    String seven = "man a 1;man b 1;man c 1;man d 1;man e 1;man f 1;man g 1;";
    LikenessPound alone = Checks.with(seven);
    for (int m = 0; m < 7; m++) {
      Checks.due("himself alone", alone.family(m), 1 << m);
    }
    LikenessPound two = Checks.with(seven + "kin a g;kin g c;kin c e;kin b f;");
    int[] due = {85, 34, 85, 8, 85, 34, 85};
    for (int m = 0; m < 7; m++) {
      Checks.due("family(" + m + ")", two.family(m), due[m]);
    }
    // The longest chains there are, along the numbers and against them.
    LikenessPound up = Checks.with(seven + "kin a b;kin b c;kin c d;kin d e;kin e f;kin f g;");
    LikenessPound mixed = Checks.with(seven + "kin d a;kin a g;kin g b;kin b f;kin f c;kin c e;");
    for (int m = 0; m < 7; m++) {
      Checks.due("a chain of all", up.family(m), 127);
      Checks.due("a chain of all", mixed.family(m), 127);
    }
    Checks.due("KIN alone", up.kin(3), 20);
  }

  private static void helpAtFaint() {
    Checks.about("HELP: so that he is not FAINT");
    for (int weighs = 1; weighs <= 20; weighs++) {
      LikenessPound x = Checks.with("man a 1;man b 1;deed p good " + weighs + ";did b p 9;kin a b;faint 10;");
      Checks.due("by one that weighs " + weighs, x.help(0), weighs < 10 ? -1 : 1);
    }
    LikenessPound y = Checks.with("man a 1;man b 1;deed p good 1;did b p 9;kin a b;owes a b 9;owes b a 40;faint 10;");
    Checks.due("one is lacking", y.help(0), 1);
    y.borrow(0, 1, 1);
    Checks.due("just 'faint': not FAINT", y.help(0), 0);
    Checks.due("nobody", y.helping(), 0);
    y.pay(0, 1, 2);
    Checks.due("two are lacking", y.help(0), -1);
    Checks.due("helping() as it was", y.helping(), 0);
    LikenessPound z = Checks.with("man a 1;faint 0;");
    Checks.due("nobody is below 0", z.help(0), 0);
    // FULL is not FAINT: help may go above the ROOM.
    LikenessPound w = Checks.with("man a 1;man b 1;deed p good 40;did b p 9;kin a b;faint 10;plate 20;");
    Checks.due("above the ROOM", w.help(0), 1);
    Checks.due("FULL himself", w.help(1), 0);
  }

  private static void helpOfKinAlone() {
    Checks.about("HELP: of his KIN");
    LikenessPound x = Checks.with("man a 1;man b 1;man c 1;deed p good 10;did a p 5;did c p 5;kin a b;faint 10;kin b c;");
    Checks.due("b by a", x.help(1), 1);
    Checks.due("who", x.helping(), 1);
    LikenessPound y = Checks.with("man a 1;man b 1;man c 1;deed p good 10;did c p 5;kin a b;kin b c;faint 10;");
    Checks.due("c is of his FAMILY, no KIN", y.help(0), -1);
    Checks.due("c helps b", y.help(1), 1);
    Checks.due("who", y.helping(), 4);
    LikenessPound z = Checks.with("man a 1;man b 1;deed p good 10;did b p 5;faint 10;");
    Checks.due("no KIN", z.help(0), -1);
  }

  private static void helpOfThoseWhoLendNone() {
    Checks.about("HELP: who lend none now");
    LikenessPound x = Checks.with("man a 1;man b 1;man c 1;deed p good 10;did b p 9;did c p 9;kin a b;kin a c;kin b c;");
    Checks.due("b", x.help(0), 1);
    Checks.due("who", x.helping(), 2);
    x.lend(1, 2, 0);
    Checks.due("b lends one: c", x.help(0), 1);
    Checks.due("who", x.helping(), 4);
    x.lend(2, 1, 0);
    Checks.due("both lend", x.help(0), -1);
    x.back(1);
    Checks.due("b lends none again", x.help(0), 1);
    Checks.due("who", x.helping(), 2);
  }

  private static void helpKeepsTheLender() {
    Checks.about("HELP: of those by which he himself would not be FAINT then");
    LikenessPound x = Checks.with("man a 1;man b 1;deed p good 10;did b p 1;kin a b;owes b a 9;faint 10;");
    Checks.due("b would have 9", x.help(0), -1);
    x.borrow(1, 0, 1);
    Checks.due("b would have just 10", x.help(0), 1);
    // What is lent to him counts for him, but is not his own to lend.
    LikenessPound y = Checks.with("man a 1;man b 1;man c 1;deed p good 10;deed q good 12;did b p 1;did c q 2;kin a b;"
        + "kin b c;faint 10;");
    Checks.due("b would have nothing", y.help(0), -1);
    y.lend(2, 1, 1);
    Checks.due("b would have 12", y.help(0), 1);
    // The heaviest would leave him FAINT, the next one does not.
    LikenessPound z = Checks.with("man a 1;man b 1;deed p good 20;deed q good 12;did b p 1;did b q 1;kin a b;"
        + "owes b a 1;faint 15;owes a b 3;");
    // b has 33: without p 13, without q 21; a has 3 and would have 15 by q.
    Checks.due("by q", z.help(0), 1);
    z.pay(0, 1, 1);
    Checks.due("q does not do, p can't be", z.help(0), -1);
    z.borrow(1, 0, 2);
    Checks.due("p can be", z.help(0), 1);
  }

  private static void helpOfAFaintLender() {
    Checks.about("HELP: was he FAINT ahead: of all");
    LikenessPound x = Checks.with("man a 1;man b 1;deed p good 9;deed q good 1;did b p 1;kin a b;faint 10;owes a b 1;");
    Checks.due("b has 9, FAINT: he lends p", x.help(0), 1);
    x.act(1, 1);
    // b has just 10 now: neither p nor q leaves him at 10.
    Checks.due("b has 10, SEEN: none", x.help(0), -1);
    x.borrow(1, 0, 8);
    Checks.due("b has 18: q alone, too little", x.help(0), -1);
    x.borrow(1, 0, 1);
    Checks.due("b has 19: p", x.help(0), 1);
  }

  private static void helpByWhatWeighsMost() {
    Checks.about("HELP: the one of his own that weighs most, good or CRIME; none: he can't");
    LikenessPound x = Checks.with("man a 1;man b 1;deed p good 4;deed q crime 10;deed r good 9;did b p 9;did b q 1;"
        + "did b r 1;kin a b;faint 10;");
    Checks.due("by a CRIME", x.help(0), 1);
    LikenessPound y = Checks.with("man a 1;man b 1;deed p good 4;deed q crime 10;deed r good 9;did b p 9;"
        + "did b r 1;kin a b;faint 10;");
    Checks.due("not by one that he did not do", y.help(0), -1);
    LikenessPound z = Checks.with("man a 1;man b 1;deed p good 10;kin a b;owes b a 40;faint 10;");
    Checks.due("he has done none", z.help(0), -1);
    z.act(1, 0);
    Checks.due("he has done one", z.help(0), 1);
  }

  private static void helpByTheFewest() {
    Checks.about("HELP: the fewest");
    String kin = "kin a b;kin a c;kin a d;kin a e;kin a f;kin a g;";
    String seven = "man a 1;man b 1;man c 1;man d 1;man e 1;man f 1;man g 1;";
    for (int faint = 1; faint <= 60; faint += 7) {
      LikenessPound x = Checks.with(seven + kin + "deed p good 5;deed o crime 40;did b p 1;did c p 1;did d p 1;did e p 1;"
          + "did f p 1;did g p 1;faint " + faint + ";");
      int due = (faint + 4) / 5;
      // Below 6 the lenders are not FAINT and would be so: none can.
      boolean can = faint > 5 && due <= 6;
      Checks.due("by fives to " + faint, x.help(0), can ? due : -1);
      Checks.due("who", x.helping(), can ? (1 << due + 1) - 2 : -1);
    }
    LikenessPound y = Checks.with(seven + kin + "deed p good 30;deed q good 15;did b q 1;did c q 1;did g p 1;faint 60;");
    Checks.due("three", y.help(0), 3);
    Checks.due("who", y.helping(), 2 + 4 + 64);
    y.borrow(0, 1, 30);
    Checks.due("one is fewer than two", y.help(0), 1);
    Checks.due("the heaviest alone", y.helping(), 64);
  }

  private static void helpByTheLeastBits() {
    Checks.about("HELP: of like ones the least as bits");
    LikenessPound x = Checks.with("man a 1;man b 1;man c 1;man d 1;man e 1;kin c a;kin c b;kin c d;kin c e;"
        + "deed p good 10;deed q good 11;deed r good 9;did a r 9;did b p 9;did d q 9;did e p 9;faint 20;");
    // 9, 10, 11, 10: a and d (1 + 8), b and d (2 + 8), b and e (2 + 16) reach 20.
    Checks.due("two", x.help(2), 2);
    Checks.due("a and d", x.helping(), 9);
    x.lend(0, 2, 2);
    // 11 are lacking now: d alone.
    Checks.due("one", x.help(2), 1);
    Checks.due("d", x.helping(), 8);
    x.lend(3, 2, 1);
    Checks.due("none is lacking", x.help(2), 0);
    Checks.due("nobody", x.helping(), 0);
  }

  private static void helpNotByAll() {
    Checks.about("HELP: NONE: not by all");
    LikenessPound x = Checks.with("man a 1;man b 1;man c 1;deed p good 10;deed q good 9;did b p 1;did c q 1;kin a b;kin a c;"
        + "faint 20;");
    Checks.due("19 of 20", x.help(0), -1);
    x.borrow(0, 1, 1);
    Checks.due("20 of 20", x.help(0), 2);
    Checks.due("all", x.helping(), 6);
    x.pay(0, 1, 1);
    Checks.due("19 again", x.help(0), -1);
    Checks.due("helping() stays", x.helping(), 6);
  }

  private static long mayOf(LikenessPound x, int white, int dark) {
    x.feed(white << 24 | dark << 16, -1, -1, -1, -1);
    x.end(2);
    long rows = x.may();
    Checks.due("the tape behind may()", x.count(4), 0);
    return rows;
  }

  private static void row(LikenessPound x, int... due) {
    for (int d = 0; d < due.length; d++) {
      Checks.due("mayBe(" + d + ")", x.mayBe(d), due[d]);
    }
    Checks.due("mayBe(" + due.length + ")", x.mayBe(due.length), -1);
    Checks.due("mayBe(-1)", x.mayBe(-1), -1);
  }

  private static void mayAsTold() {
    Checks.about("MAY by the tape (2 bytes: a WHITE, a DARK)");
    LikenessPound x = Checks.with("deed p good 5;deed q crime 3;");
    Checks.due("a row", mayOf(x, 10, 9), 1);
    row(x, 2, 3);
    for (int n : new int[] {0, 1, 3, 4, 19, 20}) {
      x.feed(0x05030503, 0x05030503, 0x05030503, 0x05030503, 0x05030503);
      x.end(n);
      Checks.due("may() of " + n + " bytes", x.may(), -1);
      Checks.due("the tape then", x.count(4), 0);
      row(x, 2, 3);
    }
    Checks.due("WHITE first", mayOf(x, 5, 3), 1);
    row(x, 1, 1);
    Checks.due("not turned", mayOf(x, 3, 5), 0);
    row(x, 1, 1);
    Checks.due("nothing", mayOf(x, 0, 0), 1);
    row(x, 0, 0);
  }

  private static void mayNineTimes() {
    Checks.about("MAY: each 0 to 9 times");
    LikenessPound x = Checks.with("deed p good 7;deed q crime 5;");
    for (int n = 0; n <= 12; n++) {
      Checks.due(n + " times", mayOf(x, 7 * n, 5 * n), n <= 9 ? 1 : 0);
      row(x, Math.min(n, 9), Math.min(n, 9));
    }
    LikenessPound y = Checks.with("deed p good 28;deed q crime 29;");
    Checks.due("252", mayOf(y, 252, 0), 1);
    row(y, 9, 0);
    Checks.due("the highest bytes", mayOf(y, 255, 255), 0);
    LikenessPound z = Checks.with("deed p good 40;deed q good 15;deed r crime 30;deed s crime 5;");
    // 255: 6 and 1, or 3 and 9; 255: 8 and 3, or 7 and 9.
    Checks.due("the highest bytes", mayOf(z, 255, 255), 4);
    row(z, 6, 1, 8, 3);
    LikenessPound ten = Checks.with("deed a good 1;deed b good 1;deed c good 1;deed d good 1;deed e good 1;deed f good 1;"
        + "deed g good 1;deed h good 1;deed i good 1;deed j good 1;");
    Checks.due("as many as there can be", mayOf(ten, 45, 0), 432457640L);
    Checks.due("each 9 times", mayOf(ten, 90, 0), 1);
    row(ten, 9, 9, 9, 9, 9, 9, 9, 9, 9, 9);
    Checks.due("one more", mayOf(ten, 91, 0), 0);
    LikenessPound halves = Checks.with("deed a good 1;deed b good 1;deed c good 1;deed d good 1;deed e good 1;"
        + "deed f crime 1;deed g crime 1;deed h crime 1;deed i crime 1;deed j crime 1;");
    // The middle of (1 + .. + t^9)^5 is 6000, at 22 and at 23.
    Checks.due("both sides", mayOf(halves, 22, 23), 6000L * 6000L);
    row(halves, 0, 0, 4, 9, 9, 0, 0, 5, 9, 9);
  }

  private static void maySides() {
    Checks.about("MAY: good ones the WHITE, CRIMES the DARK");
    LikenessPound x = Checks.with("deed p good 5;deed q crime 3;deed r good 2;");
    Checks.due("no DARK", mayOf(x, 7, 0), 1);
    row(x, 1, 0, 1);
    Checks.due("no WHITE", mayOf(x, 0, 3), 1);
    row(x, 0, 1, 0);
    Checks.due("3 is no WHITE of q", mayOf(x, 3, 0), 0);
    Checks.due("2 is no DARK of r", mayOf(x, 0, 2), 0);
    LikenessPound good = Checks.with("deed p good 5;");
    Checks.due("no CRIMES", mayOf(good, 5, 1), 0);
    Checks.due("no CRIMES", mayOf(good, 5, 0), 1);
    // What MEN did does not matter.
    LikenessPound did = Checks.with("man a 1;deed p good 5;did a p 9;");
    Checks.due("9 times more", mayOf(did, 45, 0), 1);
  }

  private static void mayTheFewest() {
    Checks.about("MAY, the smallest: the fewest times in all");
    LikenessPound x = Checks.with("deed p good 1;deed q good 4;deed r good 6;");
    // 8: p8, p4 q1, q2, p2 r1; the first has q and r least, but q2 are two times alone.
    Checks.due("8", mayOf(x, 8, 0), 4);
    row(x, 0, 2, 0);
    // 9: r q is not it; p9, p5 q, p q2, p3 r.
    Checks.due("9", mayOf(x, 9, 0), 4);
    row(x, 1, 2, 0);
    // 7: p7, p3 q, p r.
    Checks.due("7", mayOf(x, 7, 0), 3);
    row(x, 1, 0, 1);
  }

  private static void mayTheFirst() {
    Checks.about("MAY, the smallest: of like ones the first: DEED by DEED the fewest");
    LikenessPound x = Checks.with("deed p good 5;deed q good 3;deed r good 4;deed s good 4;");
    // 8 by two: p q, r r, r s, s s: p fewest, q fewest, r fewest.
    mayOf(x, 8, 0);
    row(x, 0, 0, 0, 2);
    // 12 by three: p p is 10; p q r, p q s, r r r, .. s s s.
    mayOf(x, 12, 0);
    row(x, 0, 0, 0, 3);
    // 40 by ten or fewer: s nine times at most, the tenth is r; by fewer: p 8, that is 8 times.
    mayOf(x, 40, 0);
    row(x, 8, 0, 0, 0);
    LikenessPound y = Checks.with("deed p crime 4;deed q crime 4;");
    mayOf(y, 0, 48);
    row(y, 3, 9);
  }

  private static void mayWithoutDeeds() {
    Checks.about("MAY without DEEDS: the row that has none");
    LikenessPound x = new LikenessPound();
    Checks.due("nothing", mayOf(x, 0, 0), 1);
    row(x);
    Checks.due("something white", mayOf(x, 1, 0), 0);
    Checks.due("something dark", mayOf(x, 0, 1), 0);
  }

  private static void careers(LikenessPound x, int... due) {
    for (int d = 0; d < due.length; d++) {
      Checks.due("careerOf(" + d + ")", x.careerOf(d), due[d]);
    }
    Checks.due("careerOf(" + due.length + ")", x.careerOf(due.length), -1);
    Checks.due("careerOf(-1)", x.careerOf(-1), -1);
  }

  private static void careerYears() {
    Checks.about("CAREER of a MAN in k years: DEEDS, one a year (or none)");
    LikenessPound x = Checks.with("man a 1;deed p good 2;deed q crime 1;plate 200;");
    int[] due = {0, 2, 4, 6, 8, 10, 12, 14, 16, 18, 19};
    for (int k = 0; k <= 10; k++) {
      Checks.due("career(0, " + k + ")", x.career(0, k), due[k]);
      careers(x, Math.min(k, 9), k == 10 ? 1 : 0);
    }
    Checks.refused(x,
        Checks.call("career(0, 11)", () -> x.career(0, 11), -1),
        Checks.call("career(0, -1)", () -> x.career(0, -1), -1));
    careers(x, 9, 1);
  }

  private static void careerRoom() {
    Checks.about("CAREER: the most that is not above the ROOM; NONE: it is above the ROOM already");
    LikenessPound x = Checks.with("man a 1;man b 1;deed p good 7;plate 21;");
    Checks.due("just the ROOM", x.career(0, 10), 21);
    careers(x, 3);
    x.borrow(0, 1, 1);
    Checks.due("one below it", x.career(0, 10), 15);
    careers(x, 2);
    x.borrow(0, 1, 20);
    Checks.due("just full of it", x.career(0, 10), 21);
    careers(x, 0);
    x.borrow(0, 1, 1);
    Checks.due("above it", x.career(0, 10), -1);
    Checks.due("above it, in no years", x.career(0, 0), -1);
    careers(x, 0);
    LikenessPound y = Checks.with("man a 1;deed p good 1;deed q good 40;plate 1;");
    Checks.due("the least ROOM", y.career(0, 10), 1);
    careers(y, 1, 0);
    LikenessPound z = Checks.with("man a 1;deed p good 40;plate 200;");
    Checks.due("the most ROOM", z.career(0, 10), 200);
    careers(z, 5);
    // FAINT or not does not matter.
    LikenessPound w = Checks.with("man a 1;faint 60;plate 5;deed p good 3;");
    Checks.due("FAINT all along", w.career(0, 2), 3);
  }

  private static void careerNineTimes() {
    Checks.about("CAREER: DEEDS that he could do (9 times at most)");
    LikenessPound x = Checks.with("man a 1;deed p good 10;deed q crime 3;did a p 8;did a q 9;plate 200;");
    Checks.due("one more of p, none of q", x.career(0, 10), 117);
    careers(x, 1, 0);
    x.act(0, 0);
    Checks.due("none is left", x.career(0, 10), 117);
    careers(x, 0, 0);
  }

  private static void careerTheFewest() {
    Checks.about("CAREER: of like ones the fewest times in all");
    LikenessPound x = Checks.with("man a 1;deed p good 3;deed q crime 6;deed r good 12;plate 12;");
    Checks.due("12", x.career(0, 10), 12);
    careers(x, 0, 0, 1);
    LikenessPound y = Checks.with("man a 1;deed p good 3;deed q crime 6;deed r good 5;plate 12;");
    Checks.due("12 by two", y.career(0, 10), 12);
    careers(y, 0, 2, 0);
    Checks.due("in one year 6", y.career(0, 1), 6);
    careers(y, 0, 1, 0);
  }

  private static void careerTheFirst() {
    Checks.about("CAREER: then the first: DEED by DEED the fewest");
    LikenessPound x = Checks.with("man a 1;deed p good 5;deed q crime 3;deed r good 4;deed s crime 4;plate 8;");
    Checks.due("8 by two", x.career(0, 10), 8);
    careers(x, 0, 0, 0, 2);
    LikenessPound y = Checks.with("man a 1;deed p good 4;deed q crime 4;did a q 8;plate 200;");
    Checks.due("q once at most", y.career(0, 3), 44);
    careers(y, 2, 1);
  }

  private static void careerLent() {
    Checks.about("CAREER: nothing is returned or lent meanwhile");
    LikenessPound x = Checks.with("man a 1;man b 1;deed p good 10;did a p 2;did b p 1;kin a b;plate 25;");
    Checks.due("20", x.career(0, 10), 20);
    x.lend(0, 1, 0);
    Checks.due("10 and 10", x.career(0, 10), 20);
    careers(x, 1);
    Checks.due("b: 20 with what is lent to him", x.career(1, 10), 20);
    careers(x, 0);
    Checks.due("it is lent still", x.man(0, 4), 1);
  }

  private static void careerOfAllOver() {
    Checks.about("CAREER in k years: k is not told to end with the YEARS");
    LikenessPound x = Checks.with("man a 1;deed p good 2;plate 200;");
    for (int i = 0; i < 7; i++) {
      x.years(30);
    }
    Checks.due("the YEAR", x.now(0), 200);
    Checks.due("career(0, 3)", x.career(0, 3), 6);
  }

  private static void hideNoDark() {
    Checks.about("HIDE: so that no cell of his plate is dark: he has no DARK");
    LikenessPound x = Checks.with("man a 1;man b 1;deed p good 3;deed q crime 1;plate 5;");
    Checks.due("nothing at all", x.hide(0), 0);
    x.borrow(0, 1, 1);
    Checks.due("a debt of 1", x.hide(0), 2);
    x.pay(0, 1, 1);
    Checks.due("it is paid", x.hide(0), 0);
    x.act(0, 1);
    Checks.due("a CRIME", x.hide(0), 2);
    Checks.due("all stays", x.did(0, 0), 0);
    LikenessPound y = Checks.with("man a 1;man b 1;deed q crime 1;did a q 1;kin a b;");
    Checks.due("a CRIME and no good DEEDS", y.hide(0), -1);
    y.lend(0, 1, 0);
    Checks.due("it is lent", y.hide(0), 0);
    Checks.due("to him", y.hide(1), -1);
  }

  private static void hideWhite() {
    Checks.about("HIDE: the fewest good DEEDS more: white goes over all");
    for (int room = 1; room <= 40; room++) {
      LikenessPound x = Checks.with("man a 1;deed p good 3;deed q good 7;deed r crime 40;did a r 1;did a p 1;plate " + room
          + ";");
      int lacking = room - 3;
      int due = lacking <= 0 ? 0 : (lacking + 6) / 7;
      Checks.due("to " + room, x.hide(0), due);
      Checks.due("the last cell of " + room, x.cell(0, room - 1), lacking <= 0 ? 1 : 2);
      for (int i = 0; i < due; i++) {
        Checks.due("still dark", x.cell(0, room - 1), 2);
        x.act(0, 1);
      }
      Checks.due("dark no more", x.cell(0, room - 1), 1);
      Checks.due("none is lacking", x.hide(0), 0);
    }
  }

  private static void hideNineTimes() {
    Checks.about("HIDE: that he could do (9 times at most)");
    LikenessPound x = Checks.with("man a 1;deed p good 3;deed q good 10;deed s good 10;deed r crime 1;did a r 1;did a q 7;"
        + "did a s 8;plate 186;");
    // 150 white: q twice, s once, then p: 36 are lacking, 30 by three, 6 by two.
    Checks.due("by five", x.hide(0), 5);
    x.act(0, 0);
    Checks.due("33 are lacking", x.hide(0), 4);
    x.act(0, 0);
    Checks.due("30 are lacking", x.hide(0), 3);
  }

  private static void hideNotByAll() {
    Checks.about("HIDE: NONE: not by all that he could do");
    LikenessPound x = Checks.with("man a 1;deed p good 3;deed q good 2;deed r crime 1;did a r 1;did a p 5;plate 45;");
    Checks.due("15, and 12 and 18 more: 45", x.hide(0), 13);
    LikenessPound y = Checks.with("man a 1;deed p good 3;deed q good 2;deed r crime 1;did a r 1;did a p 5;plate 46;");
    Checks.due("one is lacking", y.hide(0), -1);
    LikenessPound z = Checks.with("man a 1;deed p good 1;deed r crime 1;did a r 1;did a p 9;plate 9;");
    Checks.due("all white already", z.hide(0), 0);
    LikenessPound w = Checks.with("man a 1;deed p good 1;deed r crime 1;did a r 1;did a p 9;plate 10;");
    Checks.due("all done already", w.hide(0), -1);
  }

  private static void captions() {
    Checks.about("CAPTION: FULL: 'no room'; else his NAME, then ' is faint', if he is, else ' white ' and ' dark '");
    LikenessPound x = Checks.with("man a 1;man sevenab 1;deed p good 1;did a p 9;faint 10;plate 12;owes sevenab a 10;");
    Checks.dueText("one below 'faint'", Checks.captionOf(x, 0), "a is faint");
    x.borrow(0, 1, 1);
    Checks.dueText("just 'faint'", Checks.captionOf(x, 0), "a white 9 dark 1");
    x.borrow(0, 1, 2);
    Checks.dueText("just the ROOM", Checks.captionOf(x, 0), "a white 9 dark 3");
    x.borrow(0, 1, 1);
    Checks.dueText("one above", Checks.captionOf(x, 0), "no room");
    Checks.dueText("a long NAME", Checks.captionOf(x, 1), "sevenab white 0 dark 10");
    LikenessPound y = Checks.with("man a 1;man b 1;faint 0;plate 200;deed p good 25;did a p 4;owes a b 40;");
    y.borrow(0, 1, 40);
    y.borrow(0, 1, 19);
    Checks.dueText("three digits and two", Checks.captionOf(y, 0), "a white 100 dark 99");
    Checks.dueText("nothing", Checks.captionOf(y, 1), "b white 0 dark 0");
    LikenessPound z = Checks.with("man a 1;man b 1;man c 1;faint 0;plate 200;owes a b 40;owes a c 40;");
    z.borrow(0, 1, 20);
    Checks.dueText("three digits", Checks.captionOf(z, 0), "a white 0 dark 100");
  }

  /** By long numbers, so that the wrap of an int is the remainder by 2 to the 32nd. */
  private static int draw(int n) {
    drawnSeed = (drawnSeed * 1103515245L + 12345L) % 4294967296L;
    return (int) (drawnSeed / 256 % n);
  }

  private static void drawsWrap() {
    Checks.about("DRAWN by a seed x: x * 1103515245 + 12345 (an int, wrapping), the draw is (x >>> 8) % n");
    int[] seeds = {0, 1, -1, Integer.MAX_VALUE, Integer.MIN_VALUE, 12345, -987654321, 1 << 30};
    String colony = "man a 50;man b 5;man c 70;deed p good 1;deed q crime 1;deed r good 1;deed s good 1;deed t crime 1;";
    for (int seed : seeds) {
      LikenessPound x = Checks.with(colony);
      drawnSeed = seed & 0xffffffffL;
      int[] did = new int[15];
      int[] sat = new int[3];
      int[] satAge = new int[3];
      int[] age = {50, 5, 70};
      for (int year = 0; year < 30; year++) {
        for (int m = 0; m < 3; m++) {
          int kind = draw(6);
          if (kind <= 1) {
            int d = draw(5);
            did[m * 5 + d] = Math.min(9, did[m * 5 + d] + 1);
          } else if (kind == 2) {
            // Nobody is kin, so nothing is lent, but the draws are made.
            draw(3);
            draw(5);
          } else if (kind == 3 && (sat[m] == 0 || age[m] >= 60 && satAge[m] < 60)) {
            sat[m]++;
            satAge[m] = age[m];
          }
        }
        for (int m = 0; m < 3; m++) {
          age[m]++;
        }
      }
      Checks.due("drawn(30, " + seed + ")", x.drawn(30, seed), 30);
      for (int i = 0; i < 15; i++) {
        Checks.due("did " + i + " by " + seed, x.did(i / 5, i % 5), did[i]);
      }
      for (int m = 0; m < 3; m++) {
        Checks.due("sat " + m + " by " + seed, x.man(m, 7), sat[m]);
        Checks.due("his AGE then, by " + seed, x.kept(m, 3), sat[m] == 0 ? -1 : satAge[m]);
        Checks.due("AGE " + m, x.man(m, 0), age[m]);
      }
    }
  }

  private static void drawsWithoutSome() {
    Checks.about("DRAWN: each, if there are some, if he can");
    LikenessPound x = Checks.with("man a 5;man b 6;");
    for (int seed = 0; seed < 20; seed++) {
      Checks.colony(x, "man a 5;man b 6;");
      drawnSeed = seed;
      boolean[] sat = new boolean[2];
      for (int i = 0; i < 4; i++) {
        int kind = draw(6);
        if (kind == 2) {
          draw(2);
        }
        sat[i % 2] |= kind == 3;
      }
      Checks.due("drawn(2, " + seed + ") without DEEDS", x.drawn(2, seed), 2);
      Checks.due("a sat", x.man(0, 7), sat[0] ? 1 : 0);
      Checks.due("b sat", x.man(1, 7), sat[1] ? 1 : 0);
    }
    LikenessPound y = Checks.with("deed p good 5;");
    Checks.due("without MEN", y.drawn(1, 1), -1);
    Checks.due("the YEAR", y.now(0), 0);
  }
}
