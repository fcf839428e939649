import java.util.NoSuchElementException;

/** What the project's tests share: texts put on the tape, answers held against those that are due. */
final class Checks {
  private static int wrong = 0;
  private static int held = 0;

  private Checks() {}

  static void due(String what, long got, long want) {
    held++;
    if (got != want) {
      wrong++;
      System.out.println(what + " answered " + got + ", due is " + want);
    }
  }

  static void due(String what, boolean got, boolean want) {
    due(what, got ? 1L : 0L, want ? 1L : 0L);
  }

  static void dueNoSuch(LikenessPound x, int m, int what) {
    boolean thrown = false;
    try {
      x.man(m, what);
    } catch (NoSuchElementException e) {
      thrown = true;
    }
    due("man(" + m + ", " + what + ") throws", thrown, true);
  }

  /** Puts a text, which may hold any bytes, behind what the tape has. */
  static void tape(LikenessPound x, String text) {
    int had = x.count(4);
    for (int i = 0; i < text.length(); i += 20) {
      int[] five = new int[5];
      for (int j = 0; j < 20; j++) {
        int b = i + j < text.length() ? text.charAt(i + j) : 0;
        five[j / 4] = five[j / 4] << 8 | b & 255;
      }
      // The last twenty may not fit whole where the text itself does: no text of a test is that long.
      if (x.feed(five[0], five[1], five[2], five[3], five[4]) == LikenessPound.NONE) {
        throw new IllegalStateException("the text does not fit");
      }
      x.end(Math.min(had + text.length(), x.count(4)));
    }
  }

  static int colony(LikenessPound x, String text) {
    tape(x, text);
    return x.colony();
  }

  static int book(LikenessPound x, String text, int lives) {
    tape(x, text);
    return x.book(lives);
  }

  static int sentence(LikenessPound x, String text) {
    tape(x, text);
    return x.sentence();
  }

  static LikenessPound with(String colony) {
    LikenessPound x = new LikenessPound();
    int lines = colony(x, colony);
    if (lines < 0) {
      throw new IllegalStateException("fault " + x.fault() + " at " + (-1 - lines) + " in " + colony);
    }
    return x;
  }

  static String captionOf(LikenessPound x, int m) {
    int n = x.caption(m);
    StringBuilder text = new StringBuilder();
    for (int i = 0; i < n; i++) {
      text.append((char) x.byteAt(i));
    }
    due("a byte behind the caption", x.byteAt(n), -1);
    return text.toString();
  }

  static void dueText(String what, String got, String want) {
    held++;
    if (!got.equals(want)) {
      wrong++;
      System.out.println(what + " is '" + got + "', due is '" + want + "'");
    }
  }

  static void finish(String name) {
    System.out.println(name + ": " + held + " answers, " + wrong + " not as due");
    if (wrong != 0) {
      System.exit(1);
    }
  }
}
