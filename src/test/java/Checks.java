import java.util.NoSuchElementException;
import java.util.function.IntSupplier;
import java.util.function.IntUnaryOperator;

/** What the project's tests share: texts put on the tape, answers held against those that are due. */
final class Checks {
  private static int wrong = 0;
  private static int held = 0;
  private static String sentence = "";

  private Checks() {}

  /** The document's words that the answers below are held against; they are told with each that is not as due. */
  static void about(String words) {
    sentence = "[" + words + "] ";
  }

  static void due(String what, long got, long want) {
    held++;
    if (got != want) {
      wrong++;
      System.out.println(sentence + what + " answered " + got + ", due is " + want);
    }
  }

  static void due(String what, boolean got, boolean want) {
    due(what, got ? 1L : 0L, want ? 1L : 0L);
  }

  static void dueNoSuch(LikenessPound x, int m, int what) {
    boolean thrown = false;
    try {
      x.man(m, what);
    } catch (NoSuchElementException e) {
      thrown = true;
    }
    due("man(" + m + ", " + what + ") throws", thrown, true);
  }

  /** Puts a text, which may hold any bytes, behind what the tape has. */
  static void tape(LikenessPound x, String text) {
    int had = x.count(4);
    for (int i = 0; i < text.length(); i += 20) {
      int[] five = new int[5];
      for (int j = 0; j < 20; j++) {
        int b = i + j < text.length() ? text.charAt(i + j) : 0;
        five[j / 4] = five[j / 4] << 8 | b & 255;
      }
      // The last twenty may not fit whole where the text itself does: no text of a test is that long.
      if (x.feed(five[0], five[1], five[2], five[3], five[4]) == LikenessPound.NONE) {
        throw new IllegalStateException("the text does not fit");
      }
    }
    x.end(had + text.length());
  }

  /** Some WORD, sign or blank so many times. */
  static String times(String part, int n) {
    return part.repeat(n);
  }

  /** All that is so, as the calls that only tell show it: it must be the same behind a call that is refused. */
  static String shown(LikenessPound x) {
    StringBuilder all = new StringBuilder();
    int men = x.count(0);
    int deeds = x.count(1);
    row(all, "count", 4, x::count);
    row(all, "now", 8, x::now);
    for (int m = 0; m < men; m++) {
      int who = m;
      row(all, "man " + m, 8, what -> x.man(who, what));
      row(all, "kept " + m, 4, what -> x.kept(who, what));
      row(all, "did " + m, deeds, d -> x.did(who, d));
      row(all, "owes " + m, men, k -> x.owes(who, k));
    }
    row(all, "kin", men, x::kin);
    for (int d = 0; d < deeds; d++) {
      int which = d;
      row(all, "deed " + d, 3, what -> x.deed(which, what));
    }
    row(all, "said", men + 1, k -> x.said(k - 1));
    return all.toString();
  }

  /** A call, and what it answers where it is refused. */
  static final class Refusal {
    private final String call;
    private final IntSupplier of;
    private final int answer;

    private Refusal(String call, IntSupplier of, int answer) {
      this.call = call;
      this.of = of;
      this.answer = answer;
    }
  }

  static Refusal call(String call, IntSupplier of, int answer) {
    return new Refusal(call, of, answer);
  }

  /** Calls that are refused: what each answers, and that all stays as it is. */
  static void refused(LikenessPound x, Refusal... calls) {
    String shown = shown(x);
    for (Refusal refusal : calls) {
      due(refusal.call, refusal.of.getAsInt(), refusal.answer);
    }
    dueText("what is so behind " + calls[calls.length - 1].call, shown(x), shown);
  }

  /** What other calls told last, but for fault(). */
  static String toldLast(LikenessPound x) {
    StringBuilder all = new StringBuilder("helping " + x.helping());
    row(all, "mayBe", 4, x::mayBe);
    row(all, "careerOf", 4, x::careerOf);
    row(all, "told", 4, x::told);
    row(all, "byteAt", 20, x::byteAt);
    return all.toString();
  }

  private static void row(StringBuilder all, String name, int n, IntUnaryOperator of) {
    all.append(' ').append(name).append(':');
    for (int i = 0; i < n; i++) {
      all.append(' ').append(of.applyAsInt(i));
    }
  }

  static int colony(LikenessPound x, String text) {
    tape(x, text);
    return x.colony();
  }

  static int book(LikenessPound x, String text, int lives) {
    tape(x, text);
    return x.book(lives);
  }

  static int sentence(LikenessPound x, String text) {
    tape(x, text);
    return x.sentence();
  }

  static LikenessPound with(String colony) {
    LikenessPound x = new LikenessPound();
    int lines = colony(x, colony);
    if (lines < 0) {
      throw new IllegalStateException("fault " + x.fault() + " at " + (-1 - lines) + " in " + colony);
    }
    return x;
  }

  static String captionOf(LikenessPound x, int m) {
    int n = x.caption(m);
    StringBuilder text = new StringBuilder();
    for (int i = 0; i < n; i++) {
      text.append((char) x.byteAt(i));
    }
    due("a byte behind the caption", x.byteAt(n), -1);
    return text.toString();
  }

  static void dueText(String what, String got, String want) {
    held++;
    if (!got.equals(want)) {
      wrong++;
      System.out.println(sentence + what + " is '" + got + "', due is '" + want + "'");
    }
  }

  static void finish(String name) {
    System.out.println(name + ": " + held + " answers, " + wrong + " not as due");
    if (wrong != 0) {
      System.exit(1);
    }
  }
}
