/** Promises 1 to 5: a new object, the tape, the text of a colony and its faults. */
public final class TextTest {
  private static final String SEVEN = "man a 1;man b 2;man c 3;man d 4;man e 5;man f 6;man g 7;";
  private static final String TEN = "deed p good 1;deed q good 2;deed r good 3;deed s good 4;deed t good 5;"
      + "deed u good 6;deed v crime 7;deed w crime 8;deed x crime 9;deed y crime 10;";

  public static void main(String[] args) {
    newObject();
    tape();
    goodTexts();
    tokens();
    names();
    numbers();
    tooMany();
    tooLong();
    staysBehindFault();
    Checks.finish("TextTest");
  }

  private static void newObject() {
    LikenessPound x = new LikenessPound();
    for (int what = 0; what < 5; what++) {
      Checks.due("count(" + what + ") of a new object", x.count(what), new int[] {0, 0, 60, 10, 0}[what]);
    }
    for (int what = 0; what < 8; what++) {
      Checks.due("now(" + what + ") of a new object", x.now(what), 0);
    }
    Checks.due("fault() ahead of any", x.fault(), 0);
    Checks.due("undo() ahead of any", x.undo(), -1);
    Checks.due("heaviest() of nobody", x.heaviest(), -1);
    Checks.dueNoSuch(x, 0, 0);
  }

  private static void tape() {
    LikenessPound x = new LikenessPound();
    for (int i = 1; i <= 47; i++) {
      Checks.due("feed", x.feed(-1, i, 1 << 31, 255, 256), 20 * i);
    }
    Checks.due("feed beyond 940", x.feed(0, 0, 0, 0, 0), -1);
    Checks.due("count(4)", x.count(4), 940);
    Checks.due("end(-1)", x.end(-1), false);
    Checks.due("end(941)", x.end(941), false);
    Checks.due("end(940)", x.end(940), true);
    Checks.due("end(921)", x.end(921), true);
    Checks.due("feed to 941", x.feed(0, 0, 0, 0, 0), -1);
    Checks.due("end(920)", x.end(920), true);
    Checks.due("feed to 940", x.feed(0, 0, 0, 0, 0), 940);
    Checks.due("end(0)", x.end(0), true);
    Checks.due("end(1)", x.end(1), false);
    Checks.due("count(4) then", x.count(4), 0);
    // The highest byte first, and bytes behind those that stay.
    x.feed('m' << 24 | 'a' << 16 | 'n' << 8 | ' ', 'b' << 24 | 'o' << 16 | 'b' << 8, 0, 0, 0);
    x.end(7);
    x.feed(' ' << 24 | '7' << 16 | ';' << 8, 0, 0, 0, 0);
    x.end(10);
    Checks.due("colony()", x.colony(), 1);
    Checks.dueText("the name", Checks.captionOf(x, 0), "bob is faint");
    Checks.due("the tape behind colony()", x.count(4), 0);
  }

  private static void fault(String text, int kind, int place) {
    LikenessPound x = new LikenessPound();
    Checks.due("colony '" + text + "'", Checks.colony(x, text), -1 - place);
    Checks.due("fault of '" + text + "'", x.fault(), kind);
    Checks.due("the tape behind it", x.count(4), 0);
    Checks.due("men behind it", x.count(0), 0);
    Checks.due("deeds behind it", x.count(1), 0);
  }

  private static void good(String text, int lines) {
    LikenessPound x = new LikenessPound();
    Checks.due("colony '" + text + "'", Checks.colony(x, text), lines);
    Checks.due("fault of '" + text + "'", x.fault(), 0);
  }

  private static void goodTexts() {
    good("", 0);
    good(" \n ", 0);
    good(SEVEN + TEN, 17);
    good("man a 0;man b 90;kin a b;owes a b 40;owes b a 1;plate 200;faint 60;", 7);
    good("man\na\n007\n;\ndeed  zzzzzzz  crime  040;did a zzzzzzz 9;plate 1;faint 0;", 5);
    LikenessPound x = Checks.with("man a 30;deed p good 4;plate 50;faint 3;did a p 2;");
    Checks.due("ROOM", x.count(2), 50);
    Checks.due("faint", x.count(3), 3);
    Checks.due("a new colony", Checks.colony(x, "man b 5;"), 1);
    Checks.due("ROOM without", x.count(2), 60);
    Checks.due("faint without", x.count(3), 10);
    Checks.due("deeds without", x.count(1), 0);
    Checks.due("age", x.man(0, 0), 5);
  }

  private static void tokens() {
    fault("man", 1, 3);
    fault("man a  ", 1, 7);
    fault("man a 1", 1, 7);
    fault("man a 1;;", 1, 8);
    fault("man a 1 man", 1, 8);
    fault("men a 1;", 1, 0);
    fault("1;", 1, 0);
    fault(" Man a 1;", 1, 1);
    fault("man a 1;\t", 1, 8);
    fault("man aA 1;", 1, 5);
    fault("man a1 1;", 1, 4);
    fault("man a 1a;", 1, 6);
    fault("man a 0001;", 1, 6);
    fault("man abcdefgh 1;", 1, 4);
    fault("man 1 a;", 1, 4);
    fault("man man 1;", 1, 4);
    fault("man year 1;", 1, 4);
    fault("man akin 1;", 1, 4);
    fault("man a b;", 1, 6);
    fault("man a.1;", 1, 5);
    fault("deed p 4 good;", 1, 7);
    fault("deed p bad 4;", 1, 7);
    fault("deed p faint 4;", 1, 7);
    fault("deed p good;", 1, 11);
    fault("man a 1;kin a;", 1, 13);
    fault("plate;", 1, 5);
    fault("does", 1, 0);
    for (String word : ("man deed good crime did kin owes plate faint does lends returns borrows pays sits year or and "
        + "not seen full taken lending has akin white dark age number").split(" ")) {
      fault("deed " + word + " good 1;", 1, 5);
    }
    good("man room 1;man is 2;man no 3;man told 4;", 4);
  }

  private static void names() {
    fault("man a 1;man a 2;", 3, 12);
    fault("man a 1;deed a good 2;", 3, 13);
    fault("deed p good 2;man p 1;", 3, 18);
    fault("did a p 1;", 3, 4);
    fault("man a 1;did a p 1;", 3, 14);
    fault("man a 1;deed p good 1;did p a 1;", 3, 26);
    fault("man a 1;did a a 1;", 3, 14);
    fault("man a 1;kin a a;", 3, 14);
    fault("man a 1;man b 1;kin a b;kin b a;", 3, 30);
    fault("man a 1;man b 1;kin a b;kin a b;", 3, 30);
    fault("man a 1;owes a a 1;", 3, 15);
    fault("man a 1;man b 1;owes a b 1;owes a b 2;", 3, 34);
    fault("man a 1;deed p good 1;did a p 1;did a p 1;", 3, 38);
    fault("plate 5;plate 6;", 3, 8);
    fault("faint 5;faint 6;", 3, 8);
    fault("plate 5;plate x;", 3, 8);
    fault("kin a b;man a 1;man b 1;", 3, 4);
  }

  private static void numbers() {
    fault("man a 91;", 2, 6);
    fault("deed p good 0;", 2, 12);
    fault("deed p crime 41;", 2, 13);
    fault("man a 1;deed p good 1;did a p 0;", 2, 30);
    fault("man a 1;deed p good 1;did a p 10;", 2, 30);
    fault("man a 1;man b 1;owes a b 0;", 2, 25);
    fault("man a 1;man b 1;owes a b 41;", 2, 25);
    fault("plate 0;", 2, 6);
    fault("plate 201;", 2, 6);
    fault("faint 61;", 2, 6);
    // The first along the text, whatever its kind.
    fault("man a 91;#", 2, 6);
    fault("man a 1;man a 91;", 3, 12);
  }

  private static void tooMany() {
    fault(SEVEN + "man h 1;", 4, SEVEN.length());
    fault(SEVEN + " man a 99;", 4, SEVEN.length() + 1);
    fault(TEN + "deed z good 1;", 4, TEN.length());
    fault(TEN + "deed", 4, TEN.length());
    fault(SEVEN + TEN + "men", 1, SEVEN.length() + TEN.length());
  }

  private static String padded(String text, int length) {
    StringBuilder all = new StringBuilder(text);
    while (all.length() < length) {
      all.append(' ');
    }
    return all.toString();
  }

  private static void tooLong() {
    good(padded("man a 1;", 900), 1);
    fault(padded("man a 1;", 901), 1, 900);
    fault(padded("man a 1;", 897) + "man", 1, 900);
    fault(padded("man a 1;", 897) + "man b", 1, 900);
    fault(padded("man a 1;", 899) + "man", 1, 900);
    fault(padded("man a 1;", 899) + "men", 1, 899);
    fault(padded("man a 1;", 899) + "plate 70;", 1, 900);
    fault(padded("man a 1;", 893) + "man a 1;", 3, 897);
    fault(padded("man a 1;", 893) + "man b 91;", 2, 899);
    fault(padded("man a 1;", 893) + "man b 1111;", 1, 899);
    fault(padded("man a 1;", 893) + "man b 11;", 1, 900);
    fault(padded("#", 940), 1, 0);
  }

  private static void staysBehindFault() {
    LikenessPound x = Checks.with("man a 1;deed p good 3;did a p 4;plate 33;faint 5;");
    x.years(3);
    Checks.sentence(x, "seen");
    Checks.due("a fault", Checks.colony(x, "man c 5;man d 6;deed q good 1;plate 44;faint 7;did c q 9;#"), -58);
    Checks.due("kind", x.fault(), 1);
    Checks.due("men stay", x.count(0), 1);
    Checks.due("ROOM stays", x.count(2), 33);
    Checks.due("faint stays", x.count(3), 5);
    Checks.due("YEAR stays", x.now(0), 3);
    Checks.due("did stays", x.did(0, 0), 4);
    Checks.due("the sentence stays", x.said(-1), 1);
    Checks.due("it can be undone", x.undo(), 0);
    x.years(3);
    Checks.due("a new colony", Checks.colony(x, "man c 5;"), 1);
    Checks.due("fault() then", x.fault(), 0);
    Checks.due("YEAR 0", x.now(0), 0);
    Checks.due("no sentence", x.said(-1), -1);
    Checks.due("nothing to undo", x.undo(), -1);
  }
}
