import java.util.function.IntSupplier;

/** Promises 1 to 42, one after another: what is NONE, what is refused, what stays, what is so ahead of any call. */
public final class PromiseEdgesTest {
  /** Three MEN, three DEEDS: 3 is the first number that is none of theirs. */
  private static final String COLONY = "man ann 58;man bob 30;man cid 90;deed aid good 12;deed lie crime 2;deed joy good 3;"
      + "did ann aid 2;did ann lie 1;did bob joy 9;kin ann bob;owes cid ann 4;plate 40;faint 10;";
  private static final int[] NO_MEN = {-1, 3, 7, 31, 32, Integer.MIN_VALUE, Integer.MAX_VALUE};
  private static final int[] NO_DEEDS = {-1, 3, 10, 32, Integer.MIN_VALUE, Integer.MAX_VALUE};
  private static final int[] NO_LOANS = {0, 41, -1, -40, 1 << 30, Integer.MIN_VALUE, Integer.MAX_VALUE};
  private static final int[] NO_YEARS = {0, 31, -1, 200, Integer.MIN_VALUE, Integer.MAX_VALUE};

  public static void main(String[] args) {
    newObject();
    feed();
    feedTheHighestFirst();
    end();
    colony();
    fault();
    man();
    didAndDeed();
    owesAndKin();
    cell();
    kept();
    now();
    act();
    lend();
    back();
    borrow();
    pay();
    sit();
    years();
    undoOfNone();
    undoOfEach();
    undoOfEight();
    undoOfWhatWasNotDone();
    family();
    balance();
    help();
    mayAndMayBe();
    careerAndCareerOf();
    hide();
    heaviest();
    captionAndByteAt();
    drawn();
    odds();
    oddsNearTheEnd();
    bookThatIsNotRead();
    bookJudged();
    bookLived();
    toldWhyWrong();
    toldOfTheLatest();
    sentence();
    said();
    image();
    restore();
    count();
    lastOfAllCalls();
    Checks.finish("PromiseEdgesTest");
  }

  private static LikenessPound made() {
    return Checks.with(COLONY);
  }

  /** With all that other calls tell last, an act to undo and bytes on the tape. */
  private static LikenessPound lived() {
    LikenessPound x = made();
    Checks.sentence(x, "seen or has joy");
    x.lend(0, 1, 0);
    x.sit(0);
    x.help(0);
    x.career(0, 2);
    x.caption(0);
    Checks.book(x, "ann does joy;ann sits;", 0);
    Checks.tape(x, "\014\002");
    x.may();
    Checks.tape(x, "abc");
    return x;
  }

  /** Calls that are refused with an object's whole state held: what is so, what was told last, the tape, what can be undone. */
  private static void allStays(LikenessPound x, Runnable calls) {
    String shown = Checks.shown(x);
    String told = Checks.toldLast(x);
    int bytes = x.count(4);
    int fault = x.fault();
    calls.run();
    Checks.dueText("what is so", Checks.shown(x), shown);
    Checks.dueText("what was told last", Checks.toldLast(x), told);
    Checks.due("the tape", x.count(4), bytes);
    Checks.due("fault()", x.fault(), fault);
  }

  private static void newObject() {
    Checks.about("Promise 1: An empty COLONY; an empty tape");
    LikenessPound x = new LikenessPound();
    int[] counts = {0, 0, 60, 10, 0};
    for (int what = 0; what < 5; what++) {
      Checks.due("count(" + what + ")", x.count(what), counts[what]);
    }
    for (int what = 0; what < 8; what++) {
      Checks.due("now(" + what + ")", x.now(what), 0);
    }
    int[] none = {x.did(0, 0), x.deed(0, 0), x.owes(0, 0), x.kin(0), x.cell(0, 0), x.kept(0, 0), x.act(0, 0),
      x.lend(0, 0, 0), x.back(0), x.borrow(0, 0, 1), x.pay(0, 0, 1), x.sit(0), x.undo(), x.family(0), x.help(0), x.helping(),
      (int) x.may(), x.mayBe(0), x.career(0, 0), x.careerOf(0), x.hide(0), x.heaviest(), x.caption(0), x.byteAt(0),
      x.drawn(1, 1), x.odds(0, 1, 1), x.told(0), x.told(1), x.told(2), x.told(3), x.said(-1), x.said(0)};
    for (int i = 0; i < none.length; i++) {
      Checks.due("NONE " + i + " of a new object", none[i], -1);
    }
    Checks.dueNoSuch(x, 0, 0);
    Checks.due("fault()", x.fault(), 0);
    Checks.due("balance(0, 0)", x.balance(0, 0), 0);
    Checks.due("end(0)", x.end(0), true);
    Checks.due("end(1)", x.end(1), false);
    Checks.due("restore(0)", x.restore(0), false);
    Checks.due("restore(1)", x.restore(1), false);
    Checks.due("an empty BOOK", x.book(0), -1);
    Checks.due("a YEAR goes for nobody", x.years(1), 1);
    LikenessPound y = new LikenessPound();
    Checks.due("an empty SENTENCE is none", y.sentence(), -1);
    Checks.due("fault()", y.fault(), 1);
    Checks.due("an empty COLONY", y.colony(), 0);
    Checks.due("fault()", y.fault(), 0);
  }

  private static void feed() {
    Checks.about("Promise 2: how many it has; NONE, and none come, if it would have more than 940");
    LikenessPound x = new LikenessPound();
    for (int n = 20; n <= 940; n += 20) {
      Checks.due("feed to " + n, x.feed(0, 0, 0, 0, 0), n);
    }
    Checks.due("to 960", x.feed(0, 0, 0, 0, 0), -1);
    Checks.due("none come", x.count(4), 940);
    for (int n = 939; n > 920; n--) {
      Checks.due("end(" + n + ")", x.end(n), true);
      Checks.due("to " + (n + 20), x.feed(0, 0, 0, 0, 0), -1);
      Checks.due("none come", x.count(4), n);
    }
    Checks.due("end(920)", x.end(920), true);
    Checks.due("just to 940", x.feed(0, 0, 0, 0, 0), 940);
    x.end(1);
    Checks.due("behind one byte", x.feed(0, 0, 0, 0, 0), 21);
    // Bytes that were refused are not on the tape: what is fed next is.
    LikenessPound y = new LikenessPound();
    Checks.tape(y, Checks.times(" ", 900));
    y.end(900);
    Checks.tape(y, "                    ");
    Checks.due("920", y.count(4), 920);
    y.end(892);
    Checks.tape(y, "plate 7;");
    Checks.due("colony() of what came", y.colony(), 1);
    Checks.due("ROOM", y.count(2), 7);
  }

  private static void feedTheHighestFirst() {
    Checks.about("Promise 2: Twenty bytes come behind the tape, of each number the highest first");
    LikenessPound x = new LikenessPound();
    // "man a 1;" "man b 2;" "man " and "c 3;"
    x.feed(0x6d616e20, 0x6120313b, 0x6d616e20, 0x6220323b, 0x6d616e20);
    x.feed(0x6320333b, -1, -1, -1, -1);
    Checks.due("end(24)", x.end(24), true);
    Checks.due("colony()", x.colony(), 3);
    for (int m = 0; m < 3; m++) {
      Checks.due("AGE " + m, x.man(m, 0), m + 1);
      x.caption(m);
      Checks.due("NAME " + m, x.byteAt(0), 'a' + m);
    }
    // A byte is 0 to 255, whatever the sign of its number.
    LikenessPound y = Checks.with("deed p good 30;deed q good 15;deed r crime 16;");
    y.feed(0xff800000, 0, 0, 0, 0);
    y.end(2);
    // 255: 8 and 1, 7 and 3, 6 and 5, 5 and 7, 4 and 9.
    Checks.due("may() of 255 and 128", y.may(), 5);
    Checks.due("the WHITE", y.mayBe(0) * 30 + y.mayBe(1) * 15, 255);
    Checks.due("the DARK", y.mayBe(2) * 16, 128);
  }

  private static void end() {
    Checks.about("Promise 3: The tape has its first n bytes alone: true; false, if it has not so many, or n is below 0");
    LikenessPound x = new LikenessPound();
    Checks.tape(x, "plate 7;plate 8;#");
    for (int n : new int[] {18, 940, 941, -1, -17, Integer.MIN_VALUE, Integer.MAX_VALUE}) {
      Checks.due("end(" + n + ")", x.end(n), false);
      Checks.due("the tape stays", x.count(4), 17);
    }
    Checks.due("end(17)", x.end(17), true);
    Checks.due("all stay", x.count(4), 17);
    Checks.due("end(8)", x.end(8), true);
    Checks.due("the first 8", x.count(4), 8);
    Checks.due("those behind are gone", x.end(9), false);
    Checks.due("colony()", x.colony(), 1);
    Checks.due("the first 8 alone", x.count(2), 7);
    Checks.tape(x, "plate 9;");
    Checks.due("end(0)", x.end(0), true);
    Checks.due("none", x.count(4), 0);
    Checks.due("colony() of none", x.colony(), 0);
  }

  private static void colony() {
    Checks.about("Promise 4: The tape (empty then) is the COLONY now: how many LINES; -1 less the place of a FAULT: it stays");
    LikenessPound x = lived();
    x.end(0);
    String text = "man zed 5;man ann 6;deed aid crime 1;kin zed ann;plate 9;faint 9;did zed aid 9;owes ann zed 9;";
    Checks.tape(x, text + "#");
    String shown = Checks.shown(x);
    String told = Checks.toldLast(x);
    Checks.due("a FAULT behind all that", x.colony(), -1 - text.length());
    Checks.dueText("it stays", Checks.shown(x), shown);
    Checks.dueText("what was told last", Checks.toldLast(x), told);
    Checks.due("the tape is empty", x.count(4), 0);
    Checks.dueText("his NAME", Checks.captionOf(x, 2), "cid is faint");
    Checks.due("undo() of what was done", x.undo(), 1);
    LikenessPound y = lived();
    y.end(0);
    told = Checks.toldLast(y);
    Checks.due("another one", Checks.colony(y, "man zed 5;deed aid crime 1;"), 2);
    Checks.due("the tape is empty", y.count(4), 0);
    Checks.dueText("what was told last stays", Checks.toldLast(y), told);
    Checks.due("MEN", y.count(0), 1);
    Checks.due("no SENTENCE", y.said(-1), -1);
    Checks.due("nothing can be undone", y.undo(), -1);
    Checks.due("a FAULT at 0", Checks.colony(y, "#"), -1);
    Checks.due("fault()", y.fault(), 1);
    Checks.due("none at all", y.colony(), 0);
    Checks.due("fault()", y.fault(), 0);
    Checks.due("MEN", y.count(0), 0);
  }

  private static void fault() {
    Checks.about("Promise 5: of the latest colony(), book() or sentence() (a book() of -1000 leaves it); 0 without one");
    LikenessPound x = made();
    Checks.due("none yet", x.fault(), 0);
    Checks.colony(x, "man ann 91;");
    Checks.due("of colony()", x.fault(), 2);
    Checks.book(x, "zed sits;", 0);
    Checks.due("of book()", x.fault(), 3);
    Checks.sentence(x, "not not not not not not not not seen");
    Checks.due("of sentence()", x.fault(), 4);
    Checks.due("book(2)", x.book(2), -1000);
    Checks.due("it is left", x.fault(), 4);
    Checks.due("book(0) that is WRONG", Checks.book(x, "ann returns;", 0), 0);
    Checks.due("no FAULT", x.fault(), 0);
    Checks.due("book(2)", x.book(2), -1000);
    Checks.due("none is left so, too", x.fault(), 0);
    Checks.sentence(x, "#");
    Checks.due("of sentence()", x.fault(), 1);
    x.may();
    x.act(-1, 0);
    x.image(0);
    x.restore(0);
    x.undo();
    Checks.due("other calls leave it", x.fault(), 1);
    Checks.sentence(x, "seen");
    Checks.due("no FAULT", x.fault(), 0);
    Checks.colony(x, "#");
    Checks.colony(x, "man ann 9;");
    Checks.due("no FAULT", x.fault(), 0);
  }

  private static void man() {
    Checks.about("Promise 6: NoSuchElementException: no such ones");
    LikenessPound x = lived();
    for (int m : NO_MEN) {
      for (int what : new int[] {0, 1, 2, 3, 4, 5, 6, 7, -1, 8}) {
        Checks.dueNoSuch(x, m, what);
      }
    }
    for (int what : new int[] {-1, 8, 9, Integer.MIN_VALUE, Integer.MAX_VALUE}) {
      for (int m = 0; m < 3; m++) {
        Checks.dueNoSuch(x, m, what);
      }
    }
    int[][] due = {{58, 12, 2, 1, 1, 0, 0, 1}, {30, 39, 0, 1, -1, -1, 0, 0}, {90, 0, 4, 0, -1, -1, 4, 0}};
    for (int m = 0; m < 3; m++) {
      for (int what = 0; what < 8; what++) {
        Checks.due("man(" + m + ", " + what + ")", x.man(m, what), due[m][what]);
      }
    }
  }

  private static void didAndDeed() {
    Checks.about("Promises 7 and 8: NONE: no such ones");
    LikenessPound x = made();
    for (int m : NO_MEN) {
      Checks.due("did(" + m + ", 0)", x.did(m, 0), -1);
      Checks.due("did(" + m + ", 2)", x.did(m, 2), -1);
    }
    for (int d : NO_DEEDS) {
      Checks.due("did(0, " + d + ")", x.did(0, d), -1);
      Checks.due("did(2, " + d + ")", x.did(2, d), -1);
      for (int what = 0; what < 3; what++) {
        Checks.due("deed(" + d + ", " + what + ")", x.deed(d, what), -1);
      }
    }
    for (int what : new int[] {-1, 3, Integer.MIN_VALUE, Integer.MAX_VALUE}) {
      Checks.due("deed(0, " + what + ")", x.deed(0, what), -1);
      Checks.due("deed(2, " + what + ")", x.deed(2, what), -1);
    }
    int[] did = {2, 1, 0, 0, 0, 9, 0, 0, 0};
    int[] deed = {12, 0, 2, 2, 1, 1, 3, 0, 9};
    for (int i = 0; i < 9; i++) {
      Checks.due("did " + i, x.did(i / 3, i % 3), did[i]);
      Checks.due("deed " + i, x.deed(i / 3, i % 3), deed[i]);
    }
    LikenessPound all = Checks.with("man a 1;man b 1;man c 1;man d 1;man e 1;man f 1;man g 1;deed p good 1;did a p 9;did b p 9;"
        + "did c p 9;did d p 9;did e p 9;did f p 9;did g p 9;");
    Checks.due("how often all did it", all.deed(0, 2), 63);
  }

  private static void owesAndKin() {
    Checks.about("Promises 9 and 10: NONE: no such ones");
    LikenessPound x = made();
    for (int m : NO_MEN) {
      Checks.due("owes(" + m + ", 0)", x.owes(m, 0), -1);
      Checks.due("owes(0, " + m + ")", x.owes(0, m), -1);
      Checks.due("owes(" + m + ", " + m + ")", x.owes(m, m), -1);
      Checks.due("kin(" + m + ")", x.kin(m), -1);
    }
    int[] owes = {0, 0, 0, 0, 0, 0, 4, 0, 0};
    for (int i = 0; i < 9; i++) {
      Checks.due("owes " + i, x.owes(i / 3, i % 3), owes[i]);
    }
    Checks.due("kin(0)", x.kin(0), 2);
    Checks.due("kin(1)", x.kin(1), 1);
    Checks.due("kin(2)", x.kin(2), 0);
  }

  private static void cell() {
    Checks.about("Promise 11: NONE: no such ones");
    LikenessPound x = made();
    for (int m : NO_MEN) {
      Checks.due("cell(" + m + ", 0)", x.cell(m, 0), -1);
    }
    for (int k : new int[] {-1, 40, 60, Integer.MIN_VALUE, Integer.MAX_VALUE}) {
      for (int m = 0; m < 3; m++) {
        Checks.due("cell(" + m + ", " + k + ")", x.cell(m, k), -1);
      }
    }
    int[] edges = {0, 1, 23, 1, 24, 0, 37, 0, 38, 2, 39, 2};
    for (int i = 0; i < edges.length; i += 2) {
      Checks.due("cell(0, " + edges[i] + ")", x.cell(0, edges[i]), edges[i + 1]);
    }
    x.lend(0, 1, 0);
    Checks.due("as the LIKENESS is now", x.cell(0, 12), 0);
    Checks.due("as the LIKENESS is now", x.cell(1, 38), 1);
    Checks.due("as the LIKENESS is now", x.cell(1, 39), 0);
  }

  private static void kept() {
    Checks.about("Promise 12: NONE: he has not sat, no such ones");
    LikenessPound x = made();
    x.sit(1);
    for (int m : NO_MEN) {
      Checks.due("kept(" + m + ", 0)", x.kept(m, 0), -1);
      Checks.due("kept(" + m + ", 3)", x.kept(m, 3), -1);
    }
    for (int what = 0; what < 4; what++) {
      Checks.due("he has not sat", x.kept(0, what), -1);
      Checks.due("he has not sat", x.kept(2, what), -1);
      Checks.due("he has", x.kept(1, what), new int[] {27, 0, 0, 30}[what]);
    }
    for (int what : new int[] {-1, 4, Integer.MIN_VALUE, Integer.MAX_VALUE}) {
      Checks.due("kept(1, " + what + ")", x.kept(1, what), -1);
      Checks.due("kept(0, " + what + ")", x.kept(0, what), -1);
    }
    x.undo();
    Checks.due("undone", x.kept(1, 0), -1);
  }

  private static void now() {
    Checks.about("Promise 13: NONE for another what");
    LikenessPound x = lived();
    for (int what : new int[] {-1, 8, 9, Integer.MIN_VALUE, Integer.MAX_VALUE}) {
      Checks.due("now(" + what + ")", x.now(what), -1);
    }
    int[] due = {0, 4, 3, 0, 1, 51, 6, 1};
    for (int what = 0; what < 8; what++) {
      Checks.due("now(" + what + ")", x.now(what), due[what]);
    }
    // All seven in one sort, as bits.
    LikenessPound all = Checks.with("man a 1;man b 1;man c 1;man d 1;man e 1;man f 1;man g 1;plate 1;faint 1;deed p good 1;");
    Checks.due("all FAINT", all.now(1), 127);
    Checks.due("none SEEN", all.now(2), 0);
    for (int m = 0; m < 7; m++) {
      all.act(m, 0);
    }
    Checks.due("all SEEN", all.now(2), 127);
    for (int m = 0; m < 7; m++) {
      all.act(m, 0);
    }
    Checks.due("all FULL", all.now(3), 127);
    Checks.due("none FAINT", all.now(1), 0);
  }

  private static void act() {
    Checks.about("Promise 14: 0, or why not; NONE: no such ones");
    LikenessPound x = lived();
    allStays(x, () -> {
      for (int m : NO_MEN) {
        Checks.due("act(" + m + ", 0)", x.act(m, 0), -1);
      }
      for (int d : NO_DEEDS) {
        Checks.due("act(0, " + d + ")", x.act(0, d), -1);
        Checks.due("act(3, " + d + ")", x.act(3, d), -1);
      }
      Checks.due("9 times", x.act(1, 2), 1);
    });
    Checks.due("the last ones", x.act(2, 2), 0);
    Checks.due("did(2, 2)", x.did(2, 2), 1);
    Checks.due("undo()", x.undo(), 2);
  }

  private static void lend() {
    Checks.about("Promise 15: 0, or why not; NONE: no such ones");
    LikenessPound x = lived();
    allStays(x, () -> {
      for (int m : NO_MEN) {
        Checks.due("lend(" + m + ", 0, 0)", x.lend(m, 0, 0), -1);
        Checks.due("lend(0, " + m + ", 0)", x.lend(0, m, 0), -1);
        Checks.due("lend(" + m + ", " + m + ", 0)", x.lend(m, m, 0), -1);
      }
      for (int d : NO_DEEDS) {
        Checks.due("no KIN and no DEED " + d, x.lend(0, 2, d), -1);
        Checks.due("alike and no DEED " + d, x.lend(1, 1, d), -1);
      }
      Checks.due("no KIN", x.lend(1, 2, 2), 1);
      Checks.due("lends one", x.lend(0, 1, 0), 2);
      Checks.due("not done", x.lend(1, 0, 0), 3);
    });
    Checks.due("lend(1, 0, 2)", x.lend(1, 0, 2), 0);
    Checks.due("whom", x.man(1, 4), 0);
    Checks.due("which", x.man(1, 5), 2);
    Checks.due("undo()", x.undo(), 2);
  }

  private static void back() {
    Checks.about("Promise 16: 0, or why not; NONE: no such one");
    LikenessPound x = lived();
    allStays(x, () -> {
      for (int m : NO_MEN) {
        Checks.due("back(" + m + ")", x.back(m), -1);
      }
      Checks.due("he lends none", x.back(1), 1);
      Checks.due("he lends none", x.back(2), 1);
    });
    Checks.due("back(0)", x.back(0), 0);
    Checks.due("who lends", x.now(4), 0);
    Checks.due("undo()", x.undo(), 2);
    Checks.due("who lends", x.now(4), 1);
  }

  private static void borrow() {
    Checks.about("Promise 17: He BORROWS n (1 to 40) of a MAN: 0, or why not; NONE: no such ones");
    LikenessPound x = lived();
    allStays(x, () -> {
      for (int m : NO_MEN) {
        Checks.due("borrow(" + m + ", 0, 1)", x.borrow(m, 0, 1), -1);
        Checks.due("borrow(0, " + m + ", 1)", x.borrow(0, m, 1), -1);
      }
      for (int n : NO_LOANS) {
        Checks.due("borrow(0, 1, " + n + ")", x.borrow(0, 1, n), -1);
        Checks.due("alike: borrow(0, 0, " + n + ")", x.borrow(0, 0, n), -1);
      }
      Checks.due("alike", x.borrow(0, 0, 40), 1);
    });
    Checks.due("the least", x.borrow(0, 1, 1), 0);
    Checks.due("the most", x.borrow(2, 1, 40), 0);
    Checks.due("owes", x.owes(0, 1), 1);
    Checks.due("owes", x.owes(2, 1), 40);
  }

  private static void pay() {
    Checks.about("Promise 18: He PAYS a MAN n (1 to 40): 0, or why not; NONE: no such ones");
    LikenessPound x = lived();
    x.borrow(2, 1, 40);
    x.borrow(2, 1, 1);
    allStays(x, () -> {
      for (int m : NO_MEN) {
        Checks.due("pay(" + m + ", 0, 1)", x.pay(m, 0, 1), -1);
        Checks.due("pay(2, " + m + ", 1)", x.pay(2, m, 1), -1);
      }
      for (int n : NO_LOANS) {
        Checks.due("pay(2, 1, " + n + ")", x.pay(2, 1, n), -1);
        Checks.due("he owes nothing: pay(0, 1, " + n + ")", x.pay(0, 1, n), -1);
      }
      Checks.due("he owes less", x.pay(2, 0, 5), 1);
      Checks.due("himself", x.pay(2, 2, 1), 1);
    });
    Checks.due("the most", x.pay(2, 1, 40), 0);
    Checks.due("the least", x.pay(2, 1, 1), 0);
    Checks.due("all of another one", x.pay(2, 0, 4), 0);
    Checks.due("he owes nothing", x.man(2, 6), 0);
  }

  private static void sit() {
    Checks.about("Promise 19: 0, or why not; NONE: no such one");
    LikenessPound x = lived();
    allStays(x, () -> {
      for (int m : NO_MEN) {
        Checks.due("sit(" + m + ")", x.sit(m), -1);
      }
      Checks.due("he has sat", x.sit(0), 1);
    });
    Checks.due("the last MAN", x.sit(2), 0);
    Checks.due("sittings", x.now(7), 2);
    Checks.due("undo()", x.undo(), 2);
    Checks.due("sittings", x.now(7), 1);
  }

  private static void years() {
    Checks.about("Promise 20: n (1 to 30) YEARS go by: how many did; NONE: not as told");
    LikenessPound x = lived();
    allStays(x, () -> {
      for (int n : NO_YEARS) {
        Checks.due("years(" + n + ")", x.years(n), -1);
      }
    });
    Checks.due("the least", x.years(1), 1);
    Checks.due("the YEAR", x.now(0), 1);
    Checks.due("the most", x.years(30), 30);
    Checks.due("the YEAR", x.now(0), 31);
    for (int i = 0; i < 5; i++) {
      Checks.due("30 more", x.years(30), 30);
    }
    Checks.due("the YEAR", x.now(0), 181);
    Checks.due("not so many are left", x.years(20), 19);
    Checks.due("none is left", x.years(20), 0);
    Checks.due("not as told", x.years(31), -1);
    Checks.due("undo() of 19", x.undo(), 7);
    Checks.due("the YEAR", x.now(0), 181);
  }

  private static void undoOfNone() {
    Checks.about("Promise 21: NONE: none is");
    LikenessPound x = made();
    Checks.refused(x, Checks.call("undo()", x::undo, -1), Checks.call("undo()", x::undo, -1));
    x.act(0, 0);
    Checks.due("one", x.undo(), 0);
    Checks.refused(x, Checks.call("undo()", x::undo, -1));
    Checks.due("did(0, 0)", x.did(0, 0), 2);
  }

  private static void undoOfEach() {
    Checks.about("Promise 21: The latest of act(), lend(), back(), borrow(), pay(), sit(), years(), drawn(), a BOOK is undone");
    undone("act", x -> x.act(0, 0), 0);
    undone("lend", x -> x.lend(1, 0, 2), 0);
    undone("back", x -> x.back(0), 0);
    undone("borrow", x -> x.borrow(0, 1, 7), 0);
    undone("pay", x -> x.pay(2, 0, 4), 0);
    undone("sit", x -> x.sit(1), 0);
    undone("years", x -> x.years(7), 7);
    undone("drawn", x -> x.drawn(7, 7), 7);
    undone("book", x -> Checks.book(x, "ann does aid;year 2;bob sits;", 1), -1);
    undone("a BOOK that is WRONG at its second LINE", x -> Checks.book(x, "ann does aid;ann sits;", 1), 1);
  }

  private interface Act {
    int on(LikenessPound x);
  }

  private static void undone(String name, Act act, int answer) {
    LikenessPound x = lived();
    x.end(0);
    String shown = Checks.shown(x);
    Checks.due(name, act.on(x), answer);
    Checks.due(name + " changed something", Checks.shown(x).equals(shown), false);
    Checks.due("undo() of " + name, x.undo(), 2);
    Checks.dueText("what is so then", Checks.shown(x), shown);
  }

  private static void undoOfEight() {
    Checks.about("Promise 21: how many more can be (8 at most are kept)");
    for (int acts = 1; acts <= 20; acts++) {
      LikenessPound x = Checks.with("man a 1;man b 1;deed p good 1;");
      for (int i = 0; i < acts; i++) {
        Checks.due("borrow", x.borrow(0, 1, 1), 0);
      }
      int can = Math.min(acts, 8);
      for (int left = can - 1; left >= 0; left--) {
        Checks.due("undo() behind " + acts, x.undo(), left);
        Checks.due("owes then", x.owes(0, 1), acts - can + left);
      }
      Checks.due("none is left", x.undo(), -1);
      Checks.due("owes then", x.owes(0, 1), acts - can);
      x.borrow(0, 1, 9);
      x.act(0, 0);
      Checks.due("two new ones", x.undo(), 1);
      Checks.due("one", x.undo(), 0);
      Checks.due("none is left", x.undo(), -1);
      Checks.due("owes then", x.owes(0, 1), acts - can);
    }
  }

  private static void undoOfWhatWasNotDone() {
    Checks.about("Promise 21: that was done, years() above 0, drawn() above 0, a BOOK that was lived");
    LikenessPound x = lived();
    x.end(0);
    IntSupplier[] not = {() -> x.act(1, 2), () -> x.act(3, 0), () -> x.lend(0, 1, 0), () -> x.lend(0, 3, 0), () -> x.back(1),
      () -> x.borrow(0, 0, 1), () -> x.borrow(0, 1, 41), () -> x.pay(0, 1, 1), () -> x.sit(0), () -> x.years(0),
      () -> x.drawn(31, 1), () -> Checks.book(x, "ann does aid;", 0), () -> Checks.book(x, "ann does aid;#", 1),
      () -> x.book(2), () -> x.help(0), () -> x.career(0, 1), () -> x.odds(0, 3, 3), () -> Checks.sentence(x, "seen"),
      () -> x.image(0) ? 1 : 0, () -> x.restore(1) ? 1 : 0, () -> Checks.colony(x, "#")};
    for (IntSupplier call : not) {
      call.getAsInt();
    }
    Checks.due("undo() of the sitting", x.undo(), 1);
    Checks.due("sittings", x.now(7), 0);
    Checks.due("undo() of the loan", x.undo(), 0);
    Checks.due("who lends", x.now(4), 0);
    LikenessPound over = Checks.with("man a 1;");
    for (int i = 0; i < 7; i++) {
      over.years(30);
    }
    Checks.due("years() of 0", over.years(30), 0);
    Checks.due("drawn() of 0", over.drawn(30, 1), 0);
    Checks.due("undo() of the last 20", over.undo(), 6);
    Checks.due("the YEAR", over.now(0), 180);
    LikenessPound book = made();
    Checks.due("a BOOK without LINES, lived", Checks.book(book, "", 1), -1);
    Checks.due("undo()", book.undo(), 0);
    Checks.due("a BOOK WRONG at once, lived as far", Checks.book(book, "ann returns;", 1), 0);
    Checks.due("undo()", book.undo(), 0);
    Checks.due("undo()", book.undo(), -1);
  }

  private static void family() {
    Checks.about("Promise 22: FAMILY of a MAN, as bits; NONE: no such one");
    LikenessPound x = made();
    for (int m : NO_MEN) {
      Checks.due("family(" + m + ")", x.family(m), -1);
    }
    int[] due = {3, 3, 4};
    for (int m = 0; m < 3; m++) {
      Checks.due("family(" + m + ")", x.family(m), due[m]);
    }
  }

  private static void balance() {
    Checks.about("Promise 23: 0 alike, 1 the first ones weigh more, 2 the second ones; NONE: somebody is in both, no such ones");
    LikenessPound x = made();
    // 26, 27 and 4.
    int[] weights = {26, 27, 4};
    for (int some = 0; some < 8; some++) {
      for (int others = 0; others < 8; others++) {
        int side = 0;
        for (int m = 0; m < 3; m++) {
          side += (some >> m & 1) * weights[m] - (others >> m & 1) * weights[m];
        }
        int due = (some & others) != 0 ? -1 : side > 0 ? 1 : side < 0 ? 2 : 0;
        Checks.due("balance(" + some + ", " + others + ")", x.balance(some, others), due);
      }
    }
    for (int bits : new int[] {8, 9, 16, 64, 128, 1 << 30, Integer.MIN_VALUE, Integer.MAX_VALUE, -1, -8}) {
      Checks.due("balance(" + bits + ", 0)", x.balance(bits, 0), -1);
      Checks.due("balance(0, " + bits + ")", x.balance(0, bits), -1);
      Checks.due("balance(" + bits + ", 2)", x.balance(bits, 2), -1);
    }
    x.borrow(0, 1, 1);
    Checks.due("alike", x.balance(1, 2), 0);
    x.borrow(0, 1, 1);
    Checks.due("by one", x.balance(1, 2), 1);
    LikenessPound all = Checks.with("man a 1;man b 1;man c 1;man d 1;man e 1;man f 1;man g 1;owes g a 5;");
    Checks.due("all seven", all.balance(127, 0), 1);
    Checks.due("the last one", all.balance(63, 64), 2);
    Checks.due("an eighth", all.balance(128, 0), -1);
  }

  private static void help() {
    Checks.about("Promises 24 and 25: how many (0: he is not FAINT); NONE: not by all, no such one; helping() NONE ahead of any");
    LikenessPound x = Checks.with("man a 1;man b 1;man c 1;deed p good 10;did b p 9;kin a b;faint 10;");
    Checks.due("helping() ahead of any", x.helping(), -1);
    Checks.due("not by all", x.help(2), -1);
    Checks.due("no such one", x.help(3), -1);
    Checks.due("helping() still", x.helping(), -1);
    Checks.due("by one", x.help(0), 1);
    Checks.due("helping()", x.helping(), 2);
    Checks.refused(x, Checks.call("not by all", () -> x.help(2), -1), Checks.call("no such one", () -> x.help(-1), -1),
        Checks.call("by one", () -> x.help(0), 1));
    for (int m : NO_MEN) {
      Checks.due("help(" + m + ")", x.help(m), -1);
    }
    Checks.due("helping() of the latest that was not NONE", x.helping(), 2);
    Checks.due("not FAINT", x.help(1), 0);
    Checks.due("nobody", x.helping(), 0);
    Checks.colony(x, "");
    Checks.due("no such one", x.help(0), -1);
    Checks.due("helping() stays", x.helping(), 0);
  }

  private static void mayAndMayBe() {
    Checks.about("Promises 26 and 27: NONE: not as told; mayBe(): by the latest may() above 0; NONE: no such one, or ahead of any");
    LikenessPound x = lived();
    x.end(0);
    LikenessPound y = made();
    for (int d = -1; d < 4; d++) {
      Checks.due("mayBe(" + d + ") ahead of any", y.mayBe(d), -1);
    }
    Checks.due("not as told", y.may(), -1);
    Checks.tape(y, "\001\000");
    Checks.due("no rows", y.may(), 0);
    Checks.due("mayBe(0) ahead of any above 0", y.mayBe(0), -1);
    Checks.tape(y, "\033\006");
    // 27: joy 9, joy 5 and aid 1, joy 1 and aid 2; 6: lie 3.
    Checks.due("rows", y.may(), 3);
    int[] due = {2, 3, 1};
    for (int i = 0; i < 3; i++) {
      for (int d = 0; d < 3; d++) {
        Checks.due("mayBe(" + d + ")", y.mayBe(d), due[d]);
      }
      for (int d : NO_DEEDS) {
        Checks.due("mayBe(" + d + ")", y.mayBe(d), -1);
      }
      Checks.tape(y, i == 0 ? "\001\000" : "abc");
      Checks.due("may() that is not above 0", y.may(), i == 0 ? 0 : -1);
    }
    String shown = Checks.shown(x);
    Checks.tape(x, "\044\002");
    Checks.due("rows", x.may(), 3);
    Checks.dueText("what is so", Checks.shown(x), shown);
  }

  private static void careerAndCareerOf() {
    Checks.about("Promises 28 and 29: k (0 to 10); NONE: it is above the ROOM already, no such ones; careerOf() ahead of any");
    LikenessPound x = made();
    for (int d = -1; d < 4; d++) {
      Checks.due("careerOf(" + d + ") ahead of any", x.careerOf(d), -1);
    }
    for (int m : NO_MEN) {
      Checks.due("career(" + m + ", 0)", x.career(m, 0), -1);
    }
    for (int k : new int[] {-1, 11, 30, Integer.MIN_VALUE, Integer.MAX_VALUE}) {
      Checks.due("career(0, " + k + ")", x.career(0, k), -1);
    }
    Checks.due("careerOf(0) behind those", x.careerOf(0), -1);
    Checks.refused(x, Checks.call("career(0, 0)", () -> x.career(0, 0), 26));
    Checks.due("careerOf(0)", x.careerOf(0), 0);
    Checks.refused(x, Checks.call("career(0, 10)", () -> x.career(0, 10), 40));
    // 14 more: aid and lie.
    int[] due = {1, 1, 0};
    x.borrow(2, 0, 40);
    Checks.due("above the ROOM", x.career(2, 5), -1);
    Checks.due("no such MAN", x.career(3, 5), -1);
    for (int d = 0; d < 3; d++) {
      Checks.due("careerOf(" + d + ")", x.careerOf(d), due[d]);
    }
    for (int d : NO_DEEDS) {
      Checks.due("careerOf(" + d + ")", x.careerOf(d), -1);
    }
  }

  private static void hide() {
    Checks.about("Promise 30: how many; NONE: not by all that he could do, no such one");
    LikenessPound x = made();
    for (int m : NO_MEN) {
      Checks.due("hide(" + m + ")", x.hide(m), -1);
    }
    Checks.refused(x, Checks.call("16 are lacking", () -> x.hide(0), 2), Checks.call("no DARK", () -> x.hide(1), 0),
        Checks.call("40 are lacking", () -> x.hide(2), 4));
    LikenessPound y = Checks.with("man a 1;man b 1;owes a b 1;");
    Checks.due("no DEEDS", y.hide(0), -1);
    Checks.due("no DARK", y.hide(1), 0);
  }

  private static void heaviest() {
    Checks.about("Promise 31: most WEIGHT (of like ones the first); NONE: there are none");
    LikenessPound x = new LikenessPound();
    Checks.due("there are none", x.heaviest(), -1);
    Checks.colony(x, "deed p good 4;");
    Checks.due("there are none", x.heaviest(), -1);
    Checks.colony(x, "man a 1;");
    Checks.due("one without WEIGHT", x.heaviest(), 0);
    Checks.colony(x, "man a 1;man b 1;man c 1;deed p good 4;deed q crime 4;");
    Checks.due("of like ones the first", x.heaviest(), 0);
    x.act(2, 0);
    Checks.due("the last", x.heaviest(), 2);
    x.act(1, 1);
    Checks.due("of like ones the first", x.heaviest(), 1);
    x.borrow(0, 1, 4);
    Checks.due("of like ones the first", x.heaviest(), 0);
    x.borrow(2, 1, 1);
    Checks.due("by one", x.heaviest(), 2);
  }

  private static void captionAndByteAt() {
    Checks.about("Promises 32 and 33: how many bytes; NONE: no such one; Byte i of the latest CAPTION; NONE: none such");
    LikenessPound x = made();
    for (int i : new int[] {-1, 0, 1, Integer.MIN_VALUE, Integer.MAX_VALUE}) {
      Checks.due("byteAt(" + i + ") ahead of any", x.byteAt(i), -1);
    }
    Checks.due("caption(0)", x.caption(0), 19);
    Checks.due("the first byte", x.byteAt(0), 'a');
    Checks.due("the last byte", x.byteAt(18), '2');
    Checks.due("none behind", x.byteAt(19), -1);
    for (int m : NO_MEN) {
      Checks.due("caption(" + m + ")", x.caption(m), -1);
    }
    Checks.due("the latest stays", x.byteAt(18), '2');
    for (int i : new int[] {-1, 19, 20, Integer.MIN_VALUE, Integer.MAX_VALUE}) {
      Checks.due("byteAt(" + i + ")", x.byteAt(i), -1);
    }
    Checks.due("a shorter one", x.caption(2), 12);
    Checks.due("its last byte", x.byteAt(11), 't');
    Checks.due("nothing of the one ahead", x.byteAt(12), -1);
    x.act(2, 0);
    x.act(2, 0);
    x.act(2, 0);
    x.act(2, 0);
    Checks.due("what changes afterwards is not in it", x.byteAt(11), 't');
    Checks.due("FULL", x.caption(2), 7);
    Checks.due("its last byte", x.byteAt(6), 'm');
    Checks.due("none behind", x.byteAt(7), -1);
  }

  private static void drawn() {
    Checks.about("Promise 34: n (1 to 30) YEARS DRAWN by a seed: how many went by; NONE: not as told, no MEN");
    LikenessPound x = lived();
    allStays(x, () -> {
      for (int n : NO_YEARS) {
        Checks.due("drawn(" + n + ", 7)", x.drawn(n, 7), -1);
      }
    });
    Checks.due("the least", x.drawn(1, Integer.MIN_VALUE), 1);
    Checks.due("the YEAR", x.now(0), 1);
    Checks.due("the most", x.drawn(30, Integer.MAX_VALUE), 30);
    Checks.due("the YEAR", x.now(0), 31);
    LikenessPound noMen = Checks.with("deed p good 5;");
    Checks.due("no MEN", noMen.drawn(1, 1), -1);
    Checks.due("no MEN, not as told", noMen.drawn(0, 1), -1);
    Checks.due("the YEAR", noMen.now(0), 0);
    Checks.due("nothing to undo", noMen.undo(), -1);
    for (int year : new int[] {169, 170, 171, 199, 200}) {
      LikenessPound y = Checks.with("man a 1;deed p good 5;");
      while (y.now(0) < year) {
        y.years(Math.min(30, year - y.now(0)));
      }
      Checks.due("drawn(30, 3) from " + year, y.drawn(30, 3), Math.min(30, 200 - year));
      Checks.due("the YEAR", y.now(0), Math.min(200, year + 30));
    }
  }

  private static void odds() {
    Checks.about("Promise 35: Of n (1 to 30) seeds x, x and 1, ..; NONE: no such ones");
    LikenessPound x = lived();
    allStays(x, () -> {
      for (int m : NO_MEN) {
        Checks.due("odds(" + m + ", 1, 1)", x.odds(m, 1, 1), -1);
      }
      for (int n : NO_YEARS) {
        Checks.due("odds(0, " + n + ", 1)", x.odds(0, n, 1), -1);
      }
      Checks.due("odds(0, 30, 1)", x.odds(0, 30, 1) >= 0, true);
    });
    // From the highest int on to the lowest.
    for (int n = 1; n <= 30; n++) {
      LikenessPound y = made();
      int due = 0;
      for (int i = 0; i < n; i++) {
        LikenessPound one = made();
        one.drawn(10, Integer.MAX_VALUE - 3 + i);
        due += one.man(2, 3) == 1 ? 1 : 0;
      }
      Checks.due("odds(2, " + n + ", MAX_VALUE - 3)", y.odds(2, n, Integer.MAX_VALUE - 3), due);
    }
  }

  private static void oddsNearTheEnd() {
    Checks.about("Promise 35: behind 10 YEARS DRAWN from now on: fewer, where fewer are left");
    for (int year : new int[] {189, 190, 191, 199, 200}) {
      String colony = "man a 1;man b 1;deed p good 5;deed q crime 4;faint 10;plate 30;";
      LikenessPound x = Checks.with(colony);
      while (x.now(0) < year) {
        x.years(Math.min(30, year - x.now(0)));
      }
      x.act(0, 0);
      x.image(0);
      int due = 0;
      for (int i = 0; i < 20; i++) {
        x.drawn(10, 500 + i);
        due += x.man(0, 3) == 1 ? 1 : 0;
        x.restore(0);
      }
      Checks.due("odds(0, 20, 500) in " + year, x.odds(0, 20, 500), due);
      Checks.due("the YEAR stays", x.now(0), year);
    }
  }

  private static void bookThatIsNotRead() {
    Checks.about("Promise 36: -1000: another lives (the tape stays)");
    LikenessPound x = lived();
    x.end(0);
    Checks.tape(x, "cid sits;");
    allStays(x, () -> {
      for (int lives : new int[] {-1, 2, 3, -1000, Integer.MIN_VALUE, Integer.MAX_VALUE}) {
        Checks.due("book(" + lives + ")", x.book(lives), -1000);
      }
    });
    Checks.due("the tape is a BOOK still", x.book(1), -1);
    Checks.due("he sat", x.man(2, 7), 1);
    LikenessPound y = made();
    Checks.due("book(2) ahead of any", y.book(2), -1000);
    Checks.due("told(0)", y.told(0), -1);
    Checks.due("fault()", y.fault(), 0);
  }

  private static void bookJudged() {
    Checks.about("Promise 36: it is judged, all staying as it is (lives 0): the LINE that is WRONG; NONE: none");
    LikenessPound x = lived();
    x.end(0);
    Checks.refused(x,
        Checks.call("no LINES", () -> Checks.book(x, "", 0), -1),
        Checks.call("none is WRONG", () -> Checks.book(x, "ann returns;year 30;cid sits;bob does aid;", 0), -1),
        Checks.call("the first", () -> Checks.book(x, "bob returns;year 30;", 0), 0),
        Checks.call("the second", () -> Checks.book(x, "year 30;bob returns;year 30;", 0), 1),
        Checks.call("a FAULT at 0", () -> Checks.book(x, "#", 0), -2),
        Checks.call("a FAULT at 8", () -> Checks.book(x, "year 30;#", 0), -10),
        Checks.call("the last", () -> Checks.book(x, Checks.times("year 1;", 39) + "bob returns;", 0), 39));
    Checks.due("undo() of what was done ahead", x.undo(), 1);
  }

  private static void bookLived() {
    Checks.about("Promise 36: lived as far as it is not WRONG (1)");
    LikenessPound x = made();
    Checks.due("WRONG at the third", Checks.book(x, "cid does joy;year 3;bob returns;cid does joy;year 3;", 1), 2);
    Checks.due("did", x.did(2, 2), 1);
    Checks.due("the YEAR", x.now(0), 3);
    Checks.due("AGE", x.man(0, 0), 61);
    Checks.due("undo() of all of it", x.undo(), 0);
    Checks.due("did", x.did(2, 2), 0);
    Checks.due("the YEAR", x.now(0), 0);
    String shown = Checks.shown(x);
    Checks.due("WRONG at the first", Checks.book(x, "bob returns;cid does joy;", 1), 0);
    Checks.dueText("what is so", Checks.shown(x), shown);
    Checks.due("a FAULT at the end", Checks.book(x, "cid does joy;year 3;cid", 1), -2 - 23);
    Checks.dueText("what is so", Checks.shown(x), shown);
    Checks.due("all of it", Checks.book(x, "cid does joy;year 3;cid sits;", 1), -1);
    Checks.due("kept in that YEAR", x.kept(2, 2), 3);
    Checks.due("AGE then", x.kept(2, 3), 93);
  }

  private static void wrong(String book, int line, int why, int year) {
    LikenessPound x = made();
    Checks.due("'" + book + "'", Checks.book(x, book, 0), line);
    Checks.due("why '" + book + "'", x.told(0), why);
    Checks.due("LINES that are not WRONG in '" + book + "'", x.told(1), line);
    Checks.due("the YEAR then, of '" + book + "'", x.told(2), year);
  }

  private static void toldWhyWrong() {
    Checks.about("Promise 37: 1 as for doing, 11 to 13 lending, 21 returning, 31, 32 borrowing, 41 paying, 51 sitting; 61");
    wrong("bob does joy;", 0, 1, 0);
    wrong("ann lends cid aid;", 0, 11, 0);
    wrong("year 2;ann lends ann aid;", 1, 11, 2);
    wrong("ann lends bob aid;ann lends bob aid;", 1, 12, 0);
    wrong("ann lends bob joy;", 0, 13, 0);
    wrong("ann lends bob aid;year 1;ann returns;", 2, 21, 1);
    wrong("ann borrows ann 40;", 0, 31, 0);
    wrong("cid borrows ann 40;cid borrows ann 40;cid borrows ann 15;cid borrows ann 1;", 3, 32, 0);
    wrong("cid pays ann 5;", 0, 41, 0);
    wrong("ann sits;year 1;ann sits;", 2, 51, 1);
    wrong("ann sits;year 2;ann sits;ann sits;", 3, 51, 2);
    wrong("cid sits;year 30;cid sits;", 2, 51, 30);
    wrong(Checks.times("year 30;", 6) + "year 19;year 2;", 7, 61, 199);
    wrong(Checks.times("year 30;", 6) + "year 20;year 1;", 7, 61, 200);
    wrong(Checks.times("year 30;", 7), 6, 61, 180);
  }

  private static void toldOfTheLatest() {
    Checks.about("Promise 37: Of the latest book() that had no FAULT (and was not -1000); NONE: another what, or ahead of any");
    LikenessPound x = made();
    for (int what = -1; what < 5; what++) {
      Checks.due("told(" + what + ") ahead of any", x.told(what), -1);
    }
    Checks.book(x, "#", 0);
    Checks.due("told(0) behind a FAULT", x.told(0), -1);
    Checks.due("a BOOK", Checks.book(x, "year 3;cid does aid;cid does aid;", 0), -1);
    int[] due = {0, 3, 3, 7};
    for (int i = 0; i < 3; i++) {
      for (int what = 0; what < 4; what++) {
        Checks.due("told(" + what + ")", x.told(what), due[what]);
      }
      for (int what : new int[] {-1, 4, Integer.MIN_VALUE, Integer.MAX_VALUE}) {
        Checks.due("told(" + what + ")", x.told(what), -1);
      }
      if (i == 0) {
        Checks.book(x, "year 5;#", 0);
        x.book(2);
      } else {
        Checks.colony(x, "");
        x.years(9);
      }
    }
    Checks.due("no LINES and no MEN", Checks.book(x, "", 0), -1);
    int[] none = {0, 0, 9, 0};
    for (int what = 0; what < 4; what++) {
      Checks.due("told(" + what + ")", x.told(what), none[what]);
    }
  }

  private static void sentence() {
    Checks.about("Promise 38: how many ONES (each not, bracket and other one); -1 less the place of a FAULT: it stays");
    LikenessPound x = made();
    Checks.due("one", Checks.sentence(x, "seen"), 1);
    Checks.due("said of two", x.said(-1), 2);
    Checks.due("not", Checks.sentence(x, "not seen"), 2);
    Checks.due("said of one", x.said(-1), 1);
    Checks.due("a bracket", Checks.sentence(x, "(not(seen))and faint or has aid"), 6);
    Checks.due("said of two", x.said(-1), 2);
    Checks.refused(x,
        Checks.call("a FAULT at 0", () -> Checks.sentence(x, "#"), -1),
        Checks.call("none", () -> Checks.sentence(x, ""), -1),
        Checks.call("a FAULT at 11", () -> Checks.sentence(x, "seen or not"), -12),
        Checks.call("a FAULT at 8", () -> Checks.sentence(x, "full or zed"), -9));
    Checks.due("the tape is empty", x.count(4), 0);
    Checks.due("said of two", x.said(-1), 2);
    Checks.due("the first", x.said(0), 0);
    Checks.due("undo(): a SENTENCE is not undone", x.undo(), -1);
  }

  private static void said() {
    Checks.about("Promise 39: how many (k NONE), or the k-th. NONE: there is no SENTENCE, none such");
    LikenessPound x = made();
    for (int k : new int[] {-2, -1, 0, 1, Integer.MIN_VALUE, Integer.MAX_VALUE}) {
      Checks.due("said(" + k + ") without one", x.said(k), -1);
    }
    Checks.sentence(x, "not number=1");
    Checks.due("how many", x.said(-1), 2);
    Checks.due("the first", x.said(0), 0);
    Checks.due("the last", x.said(1), 2);
    for (int k : new int[] {2, 3, 7, -2, Integer.MIN_VALUE, Integer.MAX_VALUE}) {
      Checks.due("said(" + k + ")", x.said(k), -1);
    }
    Checks.sentence(x, "full and not full");
    Checks.due("of nobody", x.said(-1), 0);
    Checks.due("none such", x.said(0), -1);
    Checks.sentence(x, "not full or full");
    Checks.due("of all", x.said(-1), 3);
    Checks.due("the last", x.said(2), 2);
    Checks.due("none such", x.said(3), -1);
    Checks.colony(x, "");
    Checks.due("no SENTENCE", x.said(-1), -1);
    Checks.sentence(x, "not full");
    Checks.due("there are no MEN", x.said(-1), 0);
    Checks.due("none such", x.said(0), -1);
  }

  private static void image() {
    Checks.about("Promise 40: COLONY, all that is so and the SENTENCE are kept in place k (0, 1): true; false: no such one");
    LikenessPound x = lived();
    allStays(x, () -> {
      for (int k : new int[] {-1, 2, 3, Integer.MIN_VALUE, Integer.MAX_VALUE}) {
        Checks.due("image(" + k + ")", x.image(k), false);
      }
      Checks.due("nothing is kept by those", x.restore(0) || x.restore(1), false);
      Checks.due("image(0)", x.image(0), true);
    });
    Checks.due("it leaves what can be undone", x.undo(), 1);
    Checks.due("nothing is kept in 1", x.restore(1), false);
  }

  private static void restore() {
    Checks.about("Promise 41: the tape, and what other calls told last, stays; nothing can be undone; false: nothing is kept there");
    LikenessPound x = lived();
    x.image(1);
    String kept = Checks.shown(x);
    x.end(0);
    Checks.colony(x, "man zed 7;deed sin crime 40;did zed sin 1;plate 7;faint 3;");
    Checks.sentence(x, "full");
    x.act(0, 0);
    x.caption(0);
    Checks.book(x, "zed sits;", 0);
    Checks.colony(x, "plate 0;");
    Checks.tape(x, "wxyz");
    String told = Checks.toldLast(x);
    for (int k : new int[] {-1, 2, 0, Integer.MIN_VALUE, Integer.MAX_VALUE}) {
      Checks.due("restore(" + k + ")", x.restore(k), false);
    }
    Checks.due("they change nothing", x.undo(), 0);
    x.act(0, 0);
    Checks.due("restore(1)", x.restore(1), true);
    Checks.dueText("as kept", Checks.shown(x), kept);
    Checks.dueText("what was told last", Checks.toldLast(x), told);
    Checks.due("the tape", x.count(4), 4);
    Checks.due("fault()", x.fault(), 2);
    Checks.due("nothing can be undone", x.undo(), -1);
    x.act(0, 0);
    x.years(3);
    Checks.due("once more", x.restore(1), true);
    Checks.dueText("as kept", Checks.shown(x), kept);
    LikenessPound y = new LikenessPound();
    Checks.due("an image of nothing", y.image(0), true);
    Checks.colony(y, "man a 1;");
    Checks.due("restore(0)", y.restore(0), true);
    Checks.due("MEN", y.count(0), 0);
    Checks.due("another place", y.restore(1), false);
  }

  private static void count() {
    Checks.about("Promise 42: 0 MEN, 1 DEEDS, 2 the ROOM, 3 'faint', 4 bytes of the tape. NONE for another what");
    LikenessPound x = lived();
    int[] due = {3, 3, 40, 10, 3};
    for (int what = 0; what < 5; what++) {
      Checks.due("count(" + what + ")", x.count(what), due[what]);
    }
    for (int what : new int[] {-1, 5, 6, Integer.MIN_VALUE, Integer.MAX_VALUE}) {
      Checks.due("count(" + what + ")", x.count(what), -1);
    }
  }

  private static void lastOfAllCalls() {
    Checks.about("An object is used for at most 512 calls after it has been made");
    LikenessPound x = new LikenessPound();
    Checks.tape(x, "man a 1;deed p good 1;");
    x.colony();
    // count(4), two times feed(), end(), colony(): five calls so far.
    int calls = 5;
    while (calls + 3 <= 512) {
      Checks.due("act", x.act(0, 0), 0);
      Checks.due("did", x.did(0, 0), 1);
      Checks.due("undo", x.undo(), 0);
      calls += 3;
    }
    Checks.due("calls", calls, 512);
  }
}
