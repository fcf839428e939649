import java.util.function.ToIntFunction;

/** Terms, the texts: of each sentence that names a bound the last that is as told and the first that is not. */
public final class TextEdgesTest {
  private static final String LIVED = "man ann 58;man bob 30;man cid 90;deed aid good 12;deed lie crime 2;deed joy good 3;"
      + "did ann aid 2;did ann lie 1;did bob joy 9;kin ann bob;owes cid ann 4;plate 40;faint 10;";
  private static final int LIVED_YEARS = 2;
  private static final String SEVEN = "man a 1;man b 2;man c 3;man d 4;man e 5;man f 6;man g 7;";
  private static final String TEN = "deed p good 1;deed q good 2;deed r good 3;deed s good 4;deed t good 5;"
      + "deed u crime 6;deed v crime 7;deed w crime 8;deed x crime 9;deed y crime 10;";
  private static final String[] WORDS = {"man", "deed", "good", "crime", "did", "kin", "owes", "plate", "faint", "does",
    "lends", "returns", "borrows", "pays", "sits", "year", "or", "and", "not", "seen", "full", "taken", "lending", "has",
    "akin", "white", "dark", "age", "number"};

  /** The three sorts of texts: how each is read, and what a FAULT at 0 answers. */
  private enum Sort {
    COLONY(-1), BOOK(-2), SENTENCE(-1);

    final int faultAtStart;

    Sort(int faultAtStart) {
      this.faultAtStart = faultAtStart;
    }

    int read(LikenessPound x) {
      switch (this) {
        case COLONY: return x.colony();
        case BOOK: return x.book(1);
        default: return x.sentence();
      }
    }
  }

  public static void main(String[] args) {
    blanks();
    signs();
    words();
    numbers();
    runs();
    emptyTexts();
    mostBytes();
    tokensAheadOfTheMost();
    ages();
    weights();
    timesDone();
    kinOnce();
    owesOnce();
    rooms();
    faints();
    namesThatAreWords();
    namesOnce();
    namesNotTold();
    sevenMen();
    tenDeeds();
    bookNumbers();
    fortyLines();
    sentenceNumbers();
    twentyOnes();
    eightWithin();
    theFirstFault();
    theLeastFault();
    colonyForms();
    bookForms();
    sentenceForms();
    Checks.finish("TextEdgesTest");
  }

  /** A colony with a life, a SENTENCE, a BOOK that was told of, and one act that can be undone. */
  private static LikenessPound lived() {
    LikenessPound x = Checks.with(LIVED);
    Checks.sentence(x, "seen or has joy");
    x.years(LIVED_YEARS);
    Checks.book(x, "ann lends bob aid;bob sits;", 1);
    x.undo();
    return x;
  }

  private static LikenessPound good(Sort sort, String text, int answer) {
    LikenessPound x = lived();
    Checks.tape(x, text);
    Checks.due(sort + " '" + text + "'", sort.read(x), answer);
    Checks.due("fault() of " + sort + " '" + text + "'", x.fault(), 0);
    Checks.due("the tape behind '" + text + "'", x.count(4), 0);
    return x;
  }

  private static void fault(Sort sort, String text, int kind, int place) {
    LikenessPound x = lived();
    String shown = Checks.shown(x);
    int lines = x.told(1);
    Checks.tape(x, text);
    Checks.due(sort + " '" + text + "'", sort.read(x), sort.faultAtStart - place);
    Checks.due("fault() of " + sort + " '" + text + "'", x.fault(), kind);
    Checks.due("the tape behind '" + text + "'", x.count(4), 0);
    Checks.dueText("what is so behind '" + text + "'", Checks.shown(x), shown);
    Checks.due("told(1) behind '" + text + "'", x.told(1), lines);
    Checks.due("undo() behind '" + text + "'", x.undo(), 0);
    Checks.due("the YEAR then", x.now(0), 0);
  }

  private static boolean isBlank(int b) {
    return b == 32 || b == 10;
  }

  private static boolean isLetter(int b) {
    return b >= 97 && b <= 122;
  }

  private static boolean isDigit(int b) {
    return b >= 48 && b <= 57;
  }

  private static void blanks() {
    Checks.about("TOKENS of all texts, with blanks (32, 10) between them or not");
    for (int b = 0; b < 256; b++) {
      String sign = String.valueOf((char) b);
      if (isBlank(b)) {
        good(Sort.COLONY, sign + "plate" + sign + "7" + sign + ";" + sign, 1);
        good(Sort.BOOK, sign + "year" + sign + "7" + sign + ";" + sign, -1);
        good(Sort.SENTENCE, sign + "age" + sign + "<" + sign + "7" + sign, 1);
      } else {
        fault(Sort.COLONY, "plate 7;" + sign, 1, 8);
        fault(Sort.BOOK, "year 7;" + sign, isLetter(b) ? 3 : 1, 7);
        fault(Sort.SENTENCE, "seen " + sign, 1, 5);
      }
    }
    good(Sort.COLONY, "plate 7;faint 3;man a 5;", 3);
    good(Sort.COLONY, "  plate\n\n7  ;\n \nfaint 3 ;man a 5\n;", 3);
    good(Sort.BOOK, "ann does aid;bob sits;year 3;", -1);
    good(Sort.BOOK, "\nann\ndoes\naid\n;\n \n", -1);
    good(Sort.SENTENCE, "(seen)or(not faint)and age<7", 6);
    good(Sort.SENTENCE, "( seen ) or ( not faint ) and age < 7", 6);
  }

  private static void signs() {
    Checks.about("; < = > ( ) .");
    for (int b = 33; b < 256; b++) {
      if (!isLetter(b) && !isDigit(b)) {
        String sign = String.valueOf((char) b);
        fault(Sort.COLONY, "man " + sign + "5;", 1, 4);
        fault(Sort.SENTENCE, "age<" + sign + "7", 1, 4);
        if (b < '<' || b > '>') {
          fault(Sort.SENTENCE, "age" + sign + "7", 1, 3);
        } else {
          good(Sort.SENTENCE, "age" + sign + "7", 1);
        }
      }
    }
  }

  private static void words() {
    Checks.about("WORDS: small letters, 1 to 7");
    for (int n = 1; n <= 12; n++) {
      String name = Checks.times("z", n);
      if (n <= 7) {
        LikenessPound x = good(Sort.COLONY, "man " + name + " 5;", 1);
        Checks.dueText("his NAME", Checks.captionOf(x, 0), name + " is faint");
        good(Sort.COLONY, "deed " + name + " good 5;", 1);
      } else {
        fault(Sort.COLONY, "man " + name + " 5;", 1, 4);
        fault(Sort.COLONY, "deed " + name + " good 5;", 1, 5);
        fault(Sort.BOOK, name + " sits;", 1, 0);
        fault(Sort.SENTENCE, "has " + name, 1, 4);
      }
    }
    for (int b = 0; b < 256; b++) {
      String sign = String.valueOf((char) b);
      if (isLetter(b)) {
        LikenessPound x = good(Sort.COLONY, "man " + sign + " 5;", 1);
        Checks.dueText("his NAME", Checks.captionOf(x, 0), sign + " is faint");
      } else if (!isBlank(b)) {
        fault(Sort.COLONY, "man " + sign + " 5;", 1, 4);
      }
    }
    LikenessPound x = good(Sort.COLONY, "man abcdefg 1;man abcdefh 2;man bbcdefg 3;man abcdef 4;man bcdefg 5;", 5);
    Checks.dueText("his NAME", Checks.captionOf(x, 1), "abcdefh is faint");
    Checks.dueText("his NAME", Checks.captionOf(x, 4), "bcdefg is faint");
  }

  private static void numbers() {
    Checks.about("NUMBERS: 1 to 3 digits");
    for (int zeros = 0; zeros < 12; zeros++) {
      String number = Checks.times("0", zeros) + "5";
      if (zeros <= 2) {
        Checks.due("the ROOM", good(Sort.COLONY, "plate " + number + ";", 1).count(2), 5);
        Checks.due("the YEAR", good(Sort.BOOK, "year " + number + ";", -1).now(0), LIVED_YEARS + 5);
        Checks.due("of whom", good(Sort.SENTENCE, "number<" + number, 1).said(-1), 3);
      } else {
        fault(Sort.COLONY, "plate " + number + ";", 1, 6);
        fault(Sort.BOOK, "year " + number + ";", 1, 5);
        fault(Sort.SENTENCE, "number<" + number, 1, 7);
      }
    }
    for (int b = 0; b < 256; b++) {
      String sign = String.valueOf((char) b);
      if (isDigit(b) && b > '0') {
        Checks.due("the ROOM", good(Sort.COLONY, "plate " + sign + ";", 1).count(2), b - '0');
      } else if (!isBlank(b)) {
        fault(Sort.COLONY, "plate " + sign + ";", b == '0' ? 2 : 1, 6);
      }
    }
    fault(Sort.COLONY, "plate 2147483648;", 1, 6);
    fault(Sort.COLONY, "plate 4294967301;", 1, 6);
  }

  private static void runs() {
    Checks.about("A WORD, NUMBER goes on as long as small letters and digits do; what is not as told is no TOKEN");
    fault(Sort.COLONY, "man5 a 5;", 1, 0);
    fault(Sort.COLONY, "5man a 5;", 1, 0);
    fault(Sort.COLONY, "mana 5;", 1, 0);
    fault(Sort.COLONY, "man a5 5;", 1, 4);
    fault(Sort.COLONY, "man 5a 5;", 1, 4);
    fault(Sort.COLONY, "man a 5a;", 1, 6);
    fault(Sort.COLONY, "man a 5a5;", 1, 6);
    fault(Sort.COLONY, "man a5;", 1, 4);
    fault(Sort.COLONY, "plate5;", 1, 0);
    fault(Sort.COLONY, "deed p good5;", 1, 7);
    fault(Sort.COLONY, "deed p 5good;", 1, 7);
    fault(Sort.BOOK, "year5;", 1, 0);
    fault(Sort.BOOK, "ann does aid5;", 1, 9);
    fault(Sort.BOOK, "ann doesaid;", 1, 4);
    fault(Sort.BOOK, "annsits;", 3, 0);
    fault(Sort.SENTENCE, "age5", 1, 0);
    fault(Sort.SENTENCE, "age<5and seen", 1, 4);
    fault(Sort.SENTENCE, "notseen", 1, 0);
    good(Sort.SENTENCE, "age<5 and seen", 2);
    good(Sort.SENTENCE, "not(seen)", 3);
    for (int b = 0; b < 256; b++) {
      String text = "man a" + (char) b + "5;";
      if (isBlank(b)) {
        good(Sort.COLONY, text, 1);
      } else {
        fault(Sort.COLONY, text, 1, isLetter(b) || isDigit(b) ? 4 : 5);
      }
    }
  }

  private static void emptyTexts() {
    Checks.about("{ LINE ; }");
    for (String text : new String[] {"", " ", "\n", " \n \n"}) {
      LikenessPound x = good(Sort.COLONY, text, 0);
      Checks.due("MEN", x.count(0), 0);
      Checks.due("DEEDS", x.count(1), 0);
      Checks.due("LINES of a BOOK", good(Sort.BOOK, text, -1).told(1), 0);
      fault(Sort.SENTENCE, text, 1, text.length());
    }
    fault(Sort.COLONY, ";", 1, 0);
    fault(Sort.BOOK, ";", 1, 0);
    fault(Sort.SENTENCE, ";", 1, 0);
    fault(Sort.COLONY, "plate 7", 1, 7);
    fault(Sort.COLONY, "plate 7;;", 1, 8);
    fault(Sort.BOOK, "year 7", 1, 6);
    fault(Sort.BOOK, "year 7;;", 1, 7);
  }

  private static void mostBytes() {
    Checks.about("at most 900 bytes; 400 bytes; 200 bytes; the most bytes told, if there are more and no FAULT is ahead");
    bytes(Sort.COLONY, 900, "plate 7;", 1);
    bytes(Sort.BOOK, 400, "year 7;", -1);
    bytes(Sort.SENTENCE, 200, "seen", 1);
  }

  /** A text with blanks ahead of it, behind it, and one byte more. */
  private static void bytes(Sort sort, int most, String text, int answer) {
    String blanks = Checks.times(" ", most - text.length());
    good(sort, text + blanks, answer);
    good(sort, blanks + text, answer);
    good(sort, text + blanks.substring(1), answer);
    fault(sort, text + blanks + " ", 1, most);
    fault(sort, text + blanks + "\n\n", 1, most);
    fault(sort, text + blanks + "#", 1, most);
    fault(sort, text + blanks + ";", 1, most);
    fault(sort, text + blanks + text, 1, most);
    fault(sort, blanks + text + " ", 1, most);
    fault(sort, blanks + " " + text, 1, most);
    fault(sort, Checks.times(" ", 940), 1, most);
    fault(sort, "#" + Checks.times(" ", 939), 1, 0);
    fault(sort, text + blanks.substring(1) + "#", 1, most - 1);
    fault(sort, text + blanks.substring(1) + "#" + text, 1, most - 1);
    // The end is where the most bytes are, in the midst of what is due.
    fault(sort, blanks + text.substring(0, text.length() - 2) + "  ", 1, sort == Sort.SENTENCE ? most - 4 : most);
  }

  private static void tokensAheadOfTheMost() {
    Checks.about("TOKENS that begin ahead of it are read whole");
    String blanks = Checks.times(" ", 892);
    good(Sort.COLONY, blanks + "plate 7;", 1);
    // The NUMBER begins at 899: its second digit is read with it.
    fault(Sort.COLONY, blanks + " plate 7;", 1, 900);
    fault(Sort.COLONY, blanks + " plate 200;", 1, 900);
    fault(Sort.COLONY, blanks + " plate 201;", 2, 899);
    fault(Sort.COLONY, blanks + " plate 0;", 2, 899);
    fault(Sort.COLONY, blanks + " plate 2000;", 1, 899);
    fault(Sort.COLONY, blanks + " plate 7a;", 1, 899);
    fault(Sort.COLONY, blanks + "  plate 201;", 1, 900);
    fault(Sort.COLONY, blanks + "   plate 201;", 1, 900);
    fault(Sort.COLONY, blanks + "       plate 7;", 1, 900);
    fault(Sort.COLONY, blanks + "       plates 7;", 1, 899);
    fault(Sort.COLONY, blanks + "        plates 7;", 1, 900);
    fault(Sort.COLONY, "plate 7;" + Checks.times(" ", 891) + "plate 7;", 3, 899);
    fault(Sort.COLONY, "plate 7;" + Checks.times(" ", 892) + "plate 7;", 1, 900);
    fault(Sort.COLONY, SEVEN + Checks.times(" ", 899 - SEVEN.length()) + "man h 1;", 4, 899);
    fault(Sort.COLONY, SEVEN + Checks.times(" ", 900 - SEVEN.length()) + "man h 1;", 1, 900);
    blanks = Checks.times(" ", 394);
    fault(Sort.BOOK, blanks + "year 30;", 1, 400);
    fault(Sort.BOOK, blanks + "year 31;", 2, 399);
    fault(Sort.BOOK, blanks + " year 31;", 1, 400);
    fault(Sort.BOOK, blanks + "     zed sits;", 3, 399);
    fault(Sort.BOOK, blanks + "      zed sits;", 1, 400);
    fault(Sort.BOOK, blanks + "     ann sits;", 1, 400);
    blanks = Checks.times(" ", 195);
    fault(Sort.SENTENCE, blanks + "has aid", 1, 200);
    fault(Sort.SENTENCE, blanks + "has aim", 3, 199);
    fault(Sort.SENTENCE, blanks + " has aim", 1, 200);
    fault(Sort.SENTENCE, blanks + "    seen", 1, 200);
    fault(Sort.SENTENCE, blanks + "    sees", 1, 199);
    good(Sort.SENTENCE, blanks + " seen", 1);
  }

  /** Every NUMBER there is, with zeros ahead and without: as told from least to most, a FAULT at it else. */
  private static void every(Sort sort, String ahead, String behind, int least, int most, int answer,
      ToIntFunction<LikenessPound> asTold) {
    for (int n = 0; n <= 999; n++) {
      String[] forms = {String.valueOf(n), String.format("%03d", n)};
      boolean edge = n >= least - 1 && n <= least + 1 || n >= most - 1 && n <= most + 1;
      for (String form : forms) {
        if (n < least || n > most) {
          fault(sort, ahead + form + behind, 2, ahead.length());
        } else {
          LikenessPound x = good(sort, ahead + form + behind, answer);
          Checks.due("what " + form + " told", asTold.applyAsInt(x), n);
        }
        if (!edge) {
          break;
        }
      }
    }
  }

  private static void ages() {
    Checks.about("'man' NAME AGE (0 to 90)");
    every(Sort.COLONY, "man a ", ";", 0, 90, 1, x -> x.man(0, 0));
  }

  private static void weights() {
    Checks.about("'deed' NAME KIND N (KIND: 'good', 'crime'; weighs 1 to 40)");
    every(Sort.COLONY, "deed p good ", ";", 1, 40, 1, x -> x.deed(0, 1) == 0 ? x.deed(0, 0) : -1);
    every(Sort.COLONY, "deed p crime ", ";", 1, 40, 1, x -> x.deed(0, 1) == 1 ? x.deed(0, 0) : -1);
  }

  private static void timesDone() {
    Checks.about("'did' MAN DEED N (1 to 9 times; each two once; 0 without)");
    every(Sort.COLONY, "man a 1;deed p good 3;did a p ", ";", 1, 9, 3, x -> x.did(0, 0));
    StringBuilder all = new StringBuilder("man a 1;man b 1;man c 1;deed p good 3;deed q good 3;deed r good 3;");
    for (int i = 0; i < 9; i++) {
      String two = "abc".charAt(i / 3) + " " + "pqr".charAt(i % 3);
      LikenessPound x = good(Sort.COLONY, all + "did " + two + " 7;", 7 + i);
      for (int j = 0; j < 9; j++) {
        Checks.due("did " + j, x.did(j / 3, j % 3), j < i ? j + 1 : j == i ? 7 : 0);
      }
      fault(Sort.COLONY, all + "did " + two + " 1;did " + two + " 1;", 3, all.length() + 16);
      all.append("did ").append(two).append(' ').append(i + 1).append(';');
    }
    fault(Sort.COLONY, all + "did a p 1;", 3, all.length() + 6);
    fault(Sort.COLONY, all + "did c r 1;", 3, all.length() + 6);
  }

  private static void kinOnce() {
    Checks.about("'kin' MAN MAN (unlike; each two once, in whatever order)");
    String names = "abcdefg";
    StringBuilder all = new StringBuilder(SEVEN);
    int lines = 7;
    for (int i = 0; i < 7; i++) {
      fault(Sort.COLONY, SEVEN + "kin " + names.charAt(i) + " " + names.charAt(i) + ";", 3, 62);
      for (int j = i + 1; j < 7; j++) {
        String two = names.charAt(i) + " " + names.charAt(j);
        String turned = names.charAt(j) + " " + names.charAt(i);
        fault(Sort.COLONY, SEVEN + "kin " + two + ";kin " + two + ";", 3, 70);
        fault(Sort.COLONY, SEVEN + "kin " + two + ";kin " + turned + ";", 3, 70);
        fault(Sort.COLONY, SEVEN + "kin " + turned + ";kin " + two + ";", 3, 70);
        LikenessPound x = good(Sort.COLONY, SEVEN + "kin " + turned + ";", 8);
        for (int m = 0; m < 7; m++) {
          Checks.due("kin(" + m + ")", x.kin(m), m == i ? 1 << j : m == j ? 1 << i : 0);
        }
        all.append("kin ").append((i + j) % 2 == 0 ? two : turned).append(';');
        lines++;
      }
    }
    LikenessPound x = good(Sort.COLONY, all.toString(), lines);
    for (int m = 0; m < 7; m++) {
      Checks.due("all are kin to " + m, x.kin(m), 127 & ~(1 << m));
    }
  }

  private static void owesOnce() {
    Checks.about("'owes' MAN MAN N (unlike; 1 to 40; each two once, as told)");
    every(Sort.COLONY, "man a 1;man b 1;owes b a ", ";", 1, 40, 3, x -> x.owes(1, 0));
    String names = "abcdefg";
    StringBuilder all = new StringBuilder(SEVEN);
    int lines = 7;
    for (int i = 0; i < 7; i++) {
      for (int j = 0; j < 7; j++) {
        String two = names.charAt(i) + " " + names.charAt(j);
        if (i == j) {
          fault(Sort.COLONY, SEVEN + "owes " + two + " 4;", 3, 63);
          continue;
        }
        fault(Sort.COLONY, SEVEN + "owes " + two + " 4;owes " + two + " 4;", 3, 74);
        good(Sort.COLONY, SEVEN + "owes " + two + " 4;owes " + names.charAt(j) + " " + names.charAt(i) + " 4;", 9);
        all.append("owes ").append(two).append(' ').append(i * 5 + j).append(';');
        lines++;
      }
    }
    LikenessPound x = good(Sort.COLONY, all.toString(), lines);
    for (int i = 0; i < 49; i++) {
      Checks.due("owes " + i, x.owes(i / 7, i % 7), i / 7 == i % 7 ? 0 : i / 7 * 5 + i % 7);
    }
  }

  private static void rooms() {
    Checks.about("'plate' N (its ROOM: 1 to 200; once; 60 without)");
    every(Sort.COLONY, "plate ", ";", 1, 200, 1, x -> x.count(2));
    Checks.due("without", good(Sort.COLONY, "faint 7;", 1).count(2), 60);
    fault(Sort.COLONY, "plate 7;plate 7;", 3, 8);
    fault(Sort.COLONY, "plate 7;faint 7; plate 8;", 3, 17);
    fault(Sort.COLONY, "plate 7;plate", 3, 8);
  }

  private static void faints() {
    Checks.about("'faint' N (0 to 60; once; 10 without)");
    every(Sort.COLONY, "faint ", ";", 0, 60, 1, x -> x.count(3));
    Checks.due("without", good(Sort.COLONY, "plate 7;", 1).count(3), 10);
    fault(Sort.COLONY, "faint 7;faint 7;", 3, 8);
    fault(Sort.COLONY, "faint 0;faint 0;", 3, 8);
    fault(Sort.COLONY, "faint 7;plate 7; faint 8;", 3, 17);
    fault(Sort.COLONY, "faint 7;faint", 3, 8);
  }

  private static void namesThatAreWords() {
    Checks.about("NAME: a WORD, none of those told here, in a BOOK or a SENTENCE");
    for (String word : WORDS) {
      fault(Sort.COLONY, "man " + word + " 5;", 1, 4);
      fault(Sort.COLONY, "deed " + word + " good 5;", 1, 5);
      fault(Sort.COLONY, "did " + word + " p 5;", 1, 4);
      fault(Sort.COLONY, "man a 5;did a " + word + " 5;", 1, 14);
      fault(Sort.COLONY, "kin " + word + " b;", 1, 4);
      fault(Sort.COLONY, "man a 5;kin a " + word + ";", 1, 14);
      fault(Sort.COLONY, "owes " + word + " b 5;", 1, 5);
      fault(Sort.BOOK, "ann does " + word + ";", 1, 9);
      fault(Sort.BOOK, "ann lends " + word + " aid;", 1, 10);
      fault(Sort.SENTENCE, "has " + word, 1, 4);
      fault(Sort.SENTENCE, "akin " + word, 1, 5);
      // A WORD that goes on, or ends early, is another one.
      if (word.length() < 7) {
        good(Sort.COLONY, "man " + word + "z 5;deed z" + word + " good 5;", 2);
      }
      good(Sort.COLONY, "man " + word.substring(0, word.length() - 1) + " 5;", 1);
    }
  }

  private static void namesOnce() {
    Checks.about("NAME: told once; 3 a NAME told twice");
    fault(Sort.COLONY, "man a 5;man a 5;", 3, 12);
    fault(Sort.COLONY, "deed a good 5;deed a good 5;", 3, 19);
    fault(Sort.COLONY, "man a 5;deed a good 5;", 3, 13);
    fault(Sort.COLONY, "deed a good 5;man a 5;", 3, 18);
    good(Sort.COLONY, "man a 5;man aa 5;deed ab good 5;deed ba good 5;", 4);
    // A NAME of the COLONY that was may be told again.
    good(Sort.COLONY, "man ann 5;deed bob good 5;", 2);
  }

  private static void namesNotTold() {
    Checks.about("3 a NAME .. not told, or of another sort, two that must be unlike, or were told together");
    String told = "man a 5;man b 5;deed p good 5;deed q good 5;";
    int at = told.length();
    for (String other : new String[] {"z", "p", "ann"}) {
      fault(Sort.COLONY, told + "did " + other + " p 1;", 3, at + 4);
      fault(Sort.COLONY, told + "kin " + other + " b;", 3, at + 4);
      fault(Sort.COLONY, told + "kin a " + other + ";", 3, at + 6);
      fault(Sort.COLONY, told + "owes " + other + " b 1;", 3, at + 5);
      fault(Sort.COLONY, told + "owes a " + other + " 1;", 3, at + 7);
    }
    for (String other : new String[] {"z", "a", "aid"}) {
      fault(Sort.COLONY, told + "did a " + other + " 1;", 3, at + 6);
    }
    fault(Sort.COLONY, "kin a b;" + told, 3, 4);
    fault(Sort.COLONY, "man a 5;did a p 1;deed p good 5;", 3, 14);
    for (String other : new String[] {"z", "aid", "an", "annn"}) {
      fault(Sort.BOOK, other + " sits;", 3, 0);
      fault(Sort.BOOK, "ann lends " + other + " aid;", 3, 10);
      fault(Sort.BOOK, "ann borrows " + other + " 1;", 3, 12);
      fault(Sort.BOOK, "ann pays " + other + " 1;", 3, 9);
      fault(Sort.SENTENCE, "akin " + other, 3, 5);
    }
    for (String other : new String[] {"z", "ann", "ai", "aidd"}) {
      fault(Sort.BOOK, "ann does " + other + ";", 3, 9);
      fault(Sort.BOOK, "ann lends bob " + other + ";", 3, 14);
      fault(Sort.SENTENCE, "has " + other, 3, 4);
    }
  }

  private static void sevenMen() {
    Checks.about("7 MEN at most, numbered from 0; 4 one more than there may be of a sort (at the LINE's first WORD)");
    LikenessPound x = good(Sort.COLONY, SEVEN, 7);
    Checks.due("MEN", x.count(0), 7);
    for (int m = 0; m < 7; m++) {
      Checks.due("AGE of " + m, x.man(m, 0), m + 1);
    }
    Checks.dueNoSuch(x, 7, 0);
    good(Sort.COLONY, SEVEN + TEN, 17);
    fault(Sort.COLONY, SEVEN + "man h 1;", 4, 56);
    fault(Sort.COLONY, SEVEN + "  man h 1;", 4, 58);
    fault(Sort.COLONY, SEVEN + TEN + "man h 1;", 4, 56 + TEN.length());
    fault(Sort.COLONY, SEVEN + "man", 4, 56);
    fault(Sort.COLONY, SEVEN + "man a 1;", 4, 56);
    fault(Sort.COLONY, SEVEN + "man h 91;", 4, 56);
  }

  private static void tenDeeds() {
    Checks.about("10 DEEDS at most, numbered from 0; 4 one more than there may be of a sort (at the LINE's first WORD)");
    LikenessPound x = good(Sort.COLONY, TEN, 10);
    Checks.due("DEEDS", x.count(1), 10);
    for (int d = 0; d < 10; d++) {
      Checks.due("what " + d + " weighs", x.deed(d, 0), d + 1);
      Checks.due("a CRIME " + d, x.deed(d, 1), d < 5 ? 0 : 1);
    }
    Checks.due("no eleventh", x.deed(10, 0), -1);
    fault(Sort.COLONY, TEN + "deed z good 1;", 4, TEN.length());
    fault(Sort.COLONY, TEN + "\n deed z good 1;", 4, TEN.length() + 2);
    fault(Sort.COLONY, TEN + SEVEN + "deed z good 1;", 4, TEN.length() + 56);
    fault(Sort.COLONY, TEN + "deed", 4, TEN.length());
    fault(Sort.COLONY, TEN + "deed p good 99;", 4, TEN.length());
  }

  private static void bookNumbers() {
    Checks.about("N 1 to 40; of 'year' 1 to 30");
    every(Sort.BOOK, "year ", ";", 1, 30, -1, x -> x.now(0) - LIVED_YEARS);
    every(Sort.BOOK, "ann borrows bob ", ";", 1, 40, -1, x -> x.owes(0, 1));
    every(Sort.BOOK, "ann borrows bob 40;ann pays bob ", ";", 1, 40, -1, x -> 40 - x.owes(0, 1));
  }

  private static void fortyLines() {
    Checks.about("{ LINE ; }, 40 at most; 4 a 41st LINE of a BOOK (at the LINE's first WORD)");
    String forty = Checks.times("year 1;", 40);
    LikenessPound x = good(Sort.BOOK, forty, -1);
    Checks.due("LINES", x.told(1), 40);
    Checks.due("the YEAR", x.now(0), LIVED_YEARS + 40);
    good(Sort.BOOK, forty + " \n", -1);
    good(Sort.BOOK, Checks.times("year 1;", 39), -1);
    for (String line : new String[] {"year 1;", "ann sits;", "bob does aid;", "year", "cid", "year 31;", "ann does zed;"}) {
      fault(Sort.BOOK, forty + line, 4, 280);
      fault(Sort.BOOK, forty + " " + line, 4, 281);
    }
    fault(Sort.BOOK, Checks.times("year 1;", 39) + "year 31;year 1;", 2, 278);
  }

  private static void sentenceNumbers() {
    Checks.about("( 'white' | 'dark' | 'age' | 'number' ) SIGN NUMBER. SIGN: < = >");
    // lived(): ann 58 years, bob 30, cid 90; white 24, 27, 0; dark 2, 0, 4.
    compared("age", 58, 30, 90);
    compared("white", 24, 27, 0);
    compared("dark", 2, 0, 4);
    compared("number", 0, 1, 2);
  }

  private static void compared(String word, int... values) {
    LikenessPound x = lived();
    x.undo();
    for (int value : values) {
      for (int n = Math.max(0, value - 1); n <= value + 1; n++) {
        int[] held = new int[3];
        for (int of : values) {
          held[0] += of < n ? 1 : 0;
          held[1] += of == n ? 1 : 0;
          held[2] += of > n ? 1 : 0;
        }
        for (int sign = 0; sign < 3; sign++) {
          String text = word + "<=>".charAt(sign) + n;
          Checks.due("ONES of '" + text + "'", Checks.sentence(x, text), 1);
          Checks.due("of how many '" + text + "'", x.said(-1), held[sign]);
        }
      }
    }
    Checks.due("ONES", Checks.sentence(x, word + "<999"), 1);
    Checks.due("below the highest NUMBER", x.said(-1), 3);
    Checks.due("ONES", Checks.sentence(x, word + ">000"), 1);
  }

  private static void twentyOnes() {
    Checks.about("20 ONES; 4 a 21st ONE (at its first TOKEN)");
    String or = "full" + Checks.times(" or full", 19);
    good(Sort.SENTENCE, or, 20);
    good(Sort.SENTENCE, "full" + Checks.times(" or full", 18), 19);
    fault(Sort.SENTENCE, or + " or full", 4, 160);
    fault(Sort.SENTENCE, or + " and full", 4, 161);
    fault(Sort.SENTENCE, or + " or (full)", 4, 160);
    fault(Sort.SENTENCE, or + " or not full", 4, 160);
    fault(Sort.SENTENCE, or + " or has zed", 4, 160);
    fault(Sort.SENTENCE, or + " or age", 4, 160);
    good(Sort.SENTENCE, "full" + Checks.times(" and full", 19), 20);
    fault(Sort.SENTENCE, "full" + Checks.times(" and full", 20), 4, 4 + 19 * 9 + 5);
    // Each not, bracket and other one is a ONE.
    good(Sort.SENTENCE, "not full" + Checks.times(" or not full", 9), 20);
    fault(Sort.SENTENCE, "not full" + Checks.times(" or not full", 9) + " or seen", 4, 8 + 9 * 12 + 4);
    fault(Sort.SENTENCE, "seen or not full" + Checks.times(" or not full", 9), 4, 16 + 9 * 12 - 4);
    good(Sort.SENTENCE, "(full)" + Checks.times("or(full)", 9), 20);
    fault(Sort.SENTENCE, "seen or(full)" + Checks.times("or(full)", 9), 4, 13 + 9 * 8 - 5);
    LikenessPound x = good(Sort.SENTENCE, "age<1 or age=60" + Checks.times(" or age<1", 18), 20);
    Checks.due("of whom the twenty are said", x.said(0), 0);
    Checks.due("of how many", x.said(-1), 1);
  }

  private static void eightWithin() {
    Checks.about("8 within one another; 4 a ninth within (at its first TOKEN)");
    good(Sort.SENTENCE, Checks.times("not ", 7) + "seen", 8);
    fault(Sort.SENTENCE, Checks.times("not ", 8) + "seen", 4, 32);
    fault(Sort.SENTENCE, Checks.times("not ", 9) + "seen", 4, 32);
    good(Sort.SENTENCE, Checks.times("(", 7) + "seen" + Checks.times(")", 7), 8);
    fault(Sort.SENTENCE, Checks.times("(", 8) + "seen" + Checks.times(")", 8), 4, 8);
    fault(Sort.SENTENCE, Checks.times("(", 9), 4, 8);
    good(Sort.SENTENCE, "seen or " + Checks.times("(", 7) + "seen or full" + Checks.times(")", 7) + "and seen", 11);
    fault(Sort.SENTENCE, "seen or " + Checks.times("(", 7) + "seen or not full" + Checks.times(")", 7), 4, 27);
    good(Sort.SENTENCE, Checks.times("not(", 3) + "not seen" + Checks.times(")", 3), 8);
    fault(Sort.SENTENCE, Checks.times("not(", 4) + "seen" + Checks.times(")", 4), 4, 16);
    // What stands behind a ONE within is not within it.
    good(Sort.SENTENCE, "not not not not not not not seen and not not not not not not not seen", 16);
  }

  private static void theFirstFault() {
    Checks.about("FAULTS, the first along the text");
    fault(Sort.COLONY, "man a 91;man a 5;#", 2, 6);
    fault(Sort.COLONY, "man a 5;man a 91;#", 3, 12);
    fault(Sort.COLONY, "plate 0;plate 5;", 2, 6);
    fault(Sort.COLONY, SEVEN + "did a p 0;man h 1;", 3, 62);
    fault(Sort.BOOK, "ann borrows bob 41;zed sits;#", 2, 16);
    fault(Sort.BOOK, "zed borrows bob 41;#", 3, 0);
    fault(Sort.BOOK, "# zed borrows bob 41;", 1, 0);
    fault(Sort.SENTENCE, "has zed or #", 3, 4);
    fault(Sort.SENTENCE, "# or has zed", 1, 0);
    // A BOOK that would be WRONG is not lived where it has a FAULT behind.
    fault(Sort.BOOK, "ann does aid;ann returns;year 31;", 2, 30);
  }

  private static void theLeastFault() {
    Checks.about("of one TOKEN the least");
    String forty = Checks.times("year 1;", 40);
    for (String word : new String[] {";", "7", "#", "does", "man", "longword", "<"}) {
      fault(Sort.BOOK, forty + word, 1, 280);
    }
    for (String name : new String[] {"zed", "aid", "joy"}) {
      fault(Sort.BOOK, forty + name + " sits;", 3, 280);
    }
    for (String word : new String[] {"or", "zed", "7", ")", ";", "#", "man"}) {
      fault(Sort.SENTENCE, "full" + Checks.times(" or full", 19) + " or " + word, 1, 160);
      fault(Sort.SENTENCE, Checks.times("not ", 8) + word, 1, 32);
    }
    fault(Sort.SENTENCE, "full" + Checks.times(" or full", 19) + " or", 1, 159);
    fault(Sort.COLONY, SEVEN + "men h 1;", 1, 56);
    // A NUMBER with too many digits is no TOKEN, ahead of being not as told.
    fault(Sort.COLONY, "plate 9999;", 1, 6);
  }

  /** A form, TOKEN by TOKEN: behind each TOKEN what sort it is of. */
  private static void form(Sort sort, String ahead, String... tokensAndSorts) {
    String[] others = {";", "<", "=", ">", "(", ")", ".", "#", "7", "man", "or", "zz", "ann", "aid", "longword", "1000"};
    StringBuilder text = new StringBuilder(ahead);
    for (int i = 0; i < tokensAndSorts.length; i += 2) {
      String due = tokensAndSorts[i + 1];
      if (i > 0) {
        fault(sort, text.toString(), 1, text.length());
        fault(sort, text + "  ", 1, text.length() + 2);
      }
      for (String other : others) {
        int kind = kindOf(due, other);
        if (kind != 0) {
          fault(sort, text + other, kind, text.length());
          fault(sort, text + other + " ann aid 7;", kind, text.length());
        }
      }
      text.append(tokensAndSorts[i]).append(' ');
    }
  }

  /** The FAULT of a TOKEN where one of a sort is due; 0 where it may come. */
  private static int kindOf(String due, String other) {
    boolean name = other.equals("zz") || other.equals("ann") || other.equals("aid");
    switch (due) {
      case "new": return !name ? 1 : other.equals("zz") ? 0 : 3;
      case "MAN": return !name ? 1 : other.equals("ann") ? 0 : 3;
      case "DEED": return !name ? 1 : other.equals("aid") ? 0 : 3;
      case "NUMBER": return other.equals("7") ? 0 : 1;
      case "SIGN": return "<=>".contains(other) ? 0 : 1;
      case "LINE": return other.equals("man") ? 0 : 1;
      case "ONE": return other.equals("(") ? 0 : 1;
      default: return other.equals(due) ? 0 : 1;
    }
  }

  private static void colonyForms() {
    Checks.about("1 no TOKEN, or one that can't come (at it; the end: how many bytes there are): LINES of a COLONY");
    String told = "man ann 5;man bob 6;deed aid good 3;";
    form(Sort.COLONY, told, "man", "LINE", "cid", "new", "5", "NUMBER", ";", ";");
    form(Sort.COLONY, told, "deed", "LINE", "joy", "new", "good", "KIND", "5", "NUMBER", ";", ";");
    form(Sort.COLONY, told, "did", "LINE", "ann", "MAN", "aid", "DEED", "5", "NUMBER", ";", ";");
    form(Sort.COLONY, told, "kin", "LINE", "bob", "MAN", "ann", "MAN", ";", ";");
    form(Sort.COLONY, told, "owes", "LINE", "bob", "MAN", "ann", "MAN", "5", "NUMBER", ";", ";");
    form(Sort.COLONY, told, "plate", "LINE", "5", "NUMBER", ";", ";");
    form(Sort.COLONY, told, "faint", "LINE", "5", "NUMBER", ";", ";");
    for (String word : WORDS) {
      boolean begins = " man deed did kin owes plate faint ".contains(" " + word + " ");
      fault(Sort.COLONY, told + word, 1, told.length() + (begins ? word.length() : 0));
      if (!word.equals("good") && !word.equals("crime")) {
        fault(Sort.COLONY, "deed p " + word + " 5;", 1, 7);
      }
    }
  }

  private static void bookForms() {
    Checks.about("1 no TOKEN, or one that can't come (at it; the end: how many bytes there are): LINES of a BOOK");
    form(Sort.BOOK, "", "ann", "MAN", "does", "VERB", "aid", "DEED", ";", ";");
    form(Sort.BOOK, "ann sits;", "ann", "MAN", "lends", "VERB", "bob", "MAN", "aid", "DEED", ";", ";");
    form(Sort.BOOK, "", "ann", "MAN", "returns", "VERB", ";", ";");
    form(Sort.BOOK, "", "ann", "MAN", "borrows", "VERB", "bob", "MAN", "5", "NUMBER", ";", ";");
    form(Sort.BOOK, "", "ann", "MAN", "pays", "VERB", "bob", "MAN", "5", "NUMBER", ";", ";");
    form(Sort.BOOK, "year 1;", "ann", "MAN", "sits", "VERB", ";", ";");
    form(Sort.BOOK, "", "year", "MAN", "5", "NUMBER", ";", ";");
    for (String word : WORDS) {
      if (!word.equals("year")) {
        fault(Sort.BOOK, word + " sits;", 1, 0);
      }
      boolean verb = " does lends returns borrows pays sits ".contains(" " + word + " ");
      fault(Sort.BOOK, "ann " + word, 1, verb ? 4 + word.length() : 4);
    }
  }

  private static void sentenceForms() {
    Checks.about("1 no TOKEN, or one that can't come (at it; the end: how many bytes there are): a SENTENCE");
    form(Sort.SENTENCE, "", "not", "ONE", "not", "ONE", "seen", "ONE");
    form(Sort.SENTENCE, "seen or ", "seen", "ONE");
    form(Sort.SENTENCE, "seen and ", "seen", "ONE");
    form(Sort.SENTENCE, "", "(", "ONE", "seen", "ONE");
    form(Sort.SENTENCE, "", "has", "ONE", "aid", "DEED");
    form(Sort.SENTENCE, "not ", "akin", "ONE", "ann", "MAN");
    for (String word : new String[] {"white", "dark", "age", "number"}) {
      form(Sort.SENTENCE, "", word, "ONE", "<", "SIGN", "5", "NUMBER");
      form(Sort.SENTENCE, "(", word, "ONE", "=", "SIGN", "5", "NUMBER");
    }
    for (String one : new String[] {"seen", "not seen", "(seen)", "has aid", "akin ann", "age<5"}) {
      good(Sort.SENTENCE, one, one.contains("not") || one.contains("(") ? 2 : 1);
      for (String other : new String[] {";", "<", "(", ")", "#", "7", "ann", "not", "seen", "longword"}) {
        fault(Sort.SENTENCE, one + " " + other, 1, one.length() + 1);
        fault(Sort.SENTENCE, one + " " + other + " seen", 1, one.length() + 1);
      }
      for (String other : new String[] {";", "<", "(", "#", "7", "ann", "not", "seen", "longword"}) {
        fault(Sort.SENTENCE, "(" + one + " " + other, 1, one.length() + 2);
      }
      fault(Sort.SENTENCE, "(" + one, 1, one.length() + 1);
      fault(Sort.SENTENCE, one + " or", 1, one.length() + 3);
      fault(Sort.SENTENCE, one + " and ", 1, one.length() + 5);
    }
    for (String word : WORDS) {
      boolean plain = " seen faint full taken lending ".contains(" " + word + " ");
      boolean begins = " not has akin white dark age number ".contains(" " + word + " ");
      if (plain) {
        good(Sort.SENTENCE, word, 1);
      } else {
        fault(Sort.SENTENCE, word, 1, begins ? word.length() : 0);
      }
    }
  }
}
