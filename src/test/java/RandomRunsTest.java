import java.util.ArrayList;
import java.util.List;
import java.util.NoSuchElementException;
import java.util.Random;

/** Runs of random calls on the class and on the model beside it: every answer must be the same. */
public final class RandomRunsTest {
  private static final String[] MEN = {"ann", "bob", "cid", "dan", "eveline", "f", "gus", "hal"};
  private static final String[] DEEDS = {"aid", "ban", "con", "dig", "eat", "fib", "gab", "hit", "ill", "jab", "kid"};
  private static final String[] ANY = {"man", "deed", "did", "kin", "owes", "plate", "faint", "good", "crime", "does",
    "lends", "returns", "borrows", "pays", "sits", "year", "or", "and", "not", "seen", "full", "taken", "lending", "has",
    "akin", "white", "dark", "age", "number", ";", "(", ")", "<", "=", ">", ".", "#", "0", "1", "9", "41", "999", "1000",
    "x1", "1x", "longname", "A", "ann", "bob", "aid", "ban", "nobody", "\n", "\t", "\u00e9"};

  private final Random random;
  private final LikenessPound x = new LikenessPound();
  private final Model y = new Model();
  private final List<String> told = new ArrayList<>();
  private int men = 0;
  private int deeds = 0;
  private final boolean longLived;

  private RandomRunsTest(long seed) {
    random = new Random(seed);
    longLived = seed % 5 == 0;
  }

  public static void main(String[] args) {
    int runs = args.length > 0 ? Integer.parseInt(args[0]) : 3000;
    long first = args.length > 1 ? Long.parseLong(args[1]) : 1;
    for (int i = 0; i < runs; i++) {
      if (!new RandomRunsTest(first + i).run(first + i)) {
        System.exit(1);
      }
    }
    System.out.println("RandomRunsTest: " + runs + " runs, all as the model");
  }

  private boolean run(long seed) {
    int calls = 0;
    try {
      // A step makes some 60 calls at most: an object is used for 512.
      while (calls < 450) {
        calls += step();
      }
    } catch (IllegalStateException e) {
      System.out.println("run " + seed + ": " + e.getMessage());
      for (String s : told.subList(Math.max(0, told.size() - 40), told.size())) {
        System.out.println("  " + s);
      }
      return false;
    }
    return true;
  }

  private int r(int n) {
    return random.nextInt(n);
  }

  private String pick(String[] from, int n) {
    return from[r(Math.max(1, Math.min(n, from.length)))];
  }

  private void same(String call, long got, long want) {
    told.add(call + " " + got);
    if (got != want) {
      throw new IllegalStateException(call + " answered " + got + ", the model says " + want);
    }
  }

  private void same(String call, boolean got, boolean want) {
    same(call, got ? 1 : 0, want ? 1 : 0);
  }

  private int put(String text) {
    int calls = 0;
    int had = y.tape.size();
    told.add("tape '" + text + "'");
    for (int i = 0; i < text.length(); i += 20) {
      int[] v = new int[5];
      for (int j = 0; j < 20; j++) {
        int b = i + j < text.length() ? text.charAt(i + j) : 0;
        v[j / 4] = v[j / 4] << 8 | b & 255;
      }
      same("feed", x.feed(v[0], v[1], v[2], v[3], v[4]), y.feed(v));
      calls++;
    }
    int n = Math.min(had + text.length(), y.tape.size());
    same("end(" + n + ")", x.end(n), y.end(n));
    return calls + 1;
  }

  private String colonyText() {
    StringBuilder t = new StringBuilder();
    men = r(10) == 0 ? r(9) : 1 + r(7);
    deeds = r(10) == 0 ? r(12) : r(11);
    int spread = r(3) == 0 ? 40 : 6;
    for (int m = 0; m < men; m++) {
      t.append("man ").append(MEN[m]).append(' ').append(r(4) == 0 ? 55 + r(8) : r(91)).append(gap(";"));
    }
    for (int d = 0; d < deeds; d++) {
      t.append("deed ").append(DEEDS[d]).append(r(3) == 0 ? " crime " : " good ").append(1 + r(spread)).append(gap(";"));
    }
    if (r(3) > 0) {
      t.append("plate ").append(1 + r(r(2) == 0 ? 200 : 60)).append(gap(";"));
    }
    if (r(3) > 0) {
      t.append("faint ").append(r(r(2) == 0 ? 61 : 25)).append(gap(";"));
    }
    int more = r(24);
    boolean[] done = new boolean[400];
    for (int i = 0; i < more && men > 0; i++) {
      int m = r(men);
      int k = r(men);
      int sort = r(5) % 3;
      int d = deeds > 0 ? r(deeds) : 0;
      int key = sort == 0 ? m * 12 + d : sort == 1 ? 100 + Math.min(m, k) * 8 + Math.max(m, k) : 200 + m * 8 + k;
      boolean free = !done[key] && (sort == 0 ? deeds > 0 : m != k);
      if (!free && r(60) > 0) {
        continue;
      }
      done[key] = true;
      if (sort == 0) {
        t.append("did ").append(MEN[m]).append(' ').append(DEEDS[d]).append(' ').append(1 + r(9)).append(gap(";"));
      } else if (sort == 1) {
        t.append("kin ").append(MEN[m]).append(' ').append(MEN[k]).append(gap(";"));
      } else {
        t.append("owes ").append(MEN[m]).append(' ').append(MEN[k]).append(' ').append(1 + r(40)).append(gap(";"));
      }
    }
    return t.toString();
  }

  private String gap(String s) {
    int k = r(6);
    return k == 0 ? " " + s : k == 1 ? s + "\n" : k == 2 ? s + " " : s;
  }

  private String bookText() {
    StringBuilder t = new StringBuilder();
    int lines = r(12) == 0 ? 38 + r(5) : r(14);
    for (int i = 0; i < lines; i++) {
      String m = pick(MEN, men);
      String k = pick(MEN, men);
      String d = pick(DEEDS, deeds);
      String line;
      switch (lines > 30 ? 2 + r(2) * 4 : r(9)) {
        case 0: line = m + " lends " + k + " " + d; break;
        case 1: line = m + " borrows " + k + " " + (1 + r(40)); break;
        case 2: line = "year " + (1 + r(lines > 30 ? 3 : 30)); break;
        case 3: line = m + " sits"; break;
        case 4: line = m + " returns"; break;
        case 5: line = m + " pays " + k + " " + (1 + r(9)); break;
        default: line = m + " does " + d; break;
      }
      t.append(line).append(gap(";"));
    }
    return t.toString();
  }

  private String condText(int depth) {
    StringBuilder t = new StringBuilder(oneText(depth));
    int more = r(depth > 2 ? 2 : 3);
    for (int i = 0; i < more; i++) {
      t.append(r(2) == 0 ? " or " : " and ").append(oneText(depth));
    }
    return t.toString();
  }

  private String oneText(int depth) {
    int k = r(depth > 9 ? 9 : 13);
    switch (k) {
      case 0: return pick(new String[] {"seen", "faint", "full", "taken", "lending"}, 5);
      case 1: return "has " + pick(DEEDS, deeds);
      case 2: return "akin " + pick(MEN, men);
      case 9:
      case 10: return "not " + oneText(depth + 1);
      case 11:
      case 12: return "(" + condText(depth + 1) + ")";
      default: return pick(new String[] {"white", "dark", "age", "number"}, 4) + pick(new String[] {"<", "=", ">"}, 3)
          + (r(2) == 0 ? r(8) : r(80));
    }
  }

  /** A text as it is, or hurt somewhere. */
  private String hurt(String text, int one, int most) {
    if (r(one) > 0) {
      return text;
    }
    StringBuilder t = new StringBuilder(text);
    int at = r(t.length() + 1);
    switch (r(7)) {
      case 6:
        int digit = at;
        while (digit < t.length() && !Character.isDigit(t.charAt(digit))) {
          digit++;
        }
        t.insert(digit, r(10));
        break;
      case 0: t.insert(at, pick(ANY, ANY.length)); break;
      case 1: t.insert(at, " " + pick(ANY, ANY.length) + " "); break;
      case 2: t.setLength(at); break;
      case 3: t.delete(at, Math.min(t.length(), at + 1 + r(5))); break;
      case 4:
        int b = t.indexOf(" ", at);
        int e = b < 0 ? -1 : t.indexOf(" ", b + 1);
        if (e > 0) {
          t.replace(b + 1, e, pick(ANY, ANY.length));
        }
        break;
      default:
        while (t.length() < most - 20) {
          t.append("          ".substring(r(10)));
        }
        while (t.length() < Math.min(most + 1 + r(20), 935)) {
          t.append(r(3) == 0 ? " " : pick(ANY, ANY.length));
        }
    }
    return t.length() > 935 ? t.substring(0, 935) : t.toString();
  }

  private int step() {
    int k = r(100);
    if (told.isEmpty() || k < 2) {
      int n = put(hurt(colonyText(), told.size() < 3 ? 20 : 2, 900));
      same("colony()", x.colony(), y.colony());
      return n + 1 + faultToo();
    }
    if (k < 6) {
      int n = put(hurt(bookText(), 3, 400));
      int lives = r(60) == 0 ? any() : r(20) == 0 ? r(5) - 2 : r(2);
      same("book(" + lives + ")", x.book(lives), y.book(lives));
      if (y.tape.size() > 0) {
        x.end(0);
        y.end(0);
      }
      for (int i = -1; i < 5; i++) {
        same("told(" + i + ")", x.told(i), y.told(i));
      }
      return n + 8 + faultToo();
    }
    if (k < 10) {
      int n = put(hurt(condText(0), 3, 200));
      same("sentence()", x.sentence(), y.sentence());
      return n + 1 + faultToo() + saidToo();
    }
    return k < 50 ? changeStep() : askStep();
  }

  private int faultToo() {
    same("fault()", x.fault(), y.fault);
    return 1;
  }

  private int saidToo() {
    for (int i = -2; i < 8; i++) {
      same("said(" + i + ")", x.said(i), y.said(i));
    }
    return 10;
  }

  private int m() {
    return r(60) == 0 ? any() : r(15) == 0 ? r(12) - 3 : r(Math.max(1, Math.min(7, men)));
  }

  private int d() {
    return r(60) == 0 ? any() : r(15) == 0 ? r(15) - 3 : r(Math.max(1, Math.min(10, deeds)));
  }

  /** Any int, the lowest and the highest among them. */
  private int any() {
    int k = r(4);
    return k == 0 ? Integer.MIN_VALUE : k == 1 ? Integer.MAX_VALUE : random.nextInt();
  }

  private int changeStep() {
    int m = m();
    int k = m();
    int d = d();
    int n = r(40) == 0 ? any() : r(10) == 0 ? r(50) - 4 : 1 + r(40);
    switch (r(12)) {
      case 0: case 1: case 2: same("act(" + m + ", " + d + ")", x.act(m, d), y.act(m, d)); break;
      case 3: case 4: same("lend(" + m + ", " + k + ", " + d + ")", x.lend(m, k, d), y.lend(m, k, d)); break;
      case 5: same("back(" + m + ")", x.back(m), y.back(m)); break;
      case 6: same("borrow(" + m + ", " + k + ", " + n + ")", x.borrow(m, k, n), y.borrow(m, k, n)); break;
      case 7: same("pay(" + m + ", " + k + ", " + n + ")", x.pay(m, k, n), y.pay(m, k, n)); break;
      case 8: same("sit(" + m + ")", x.sit(m), y.sit(m)); break;
      case 9:
        int years = r(40) == 0 ? any() : r(4) == 0 ? r(34) - 1 : longLived ? 30 : 1 + r(4);
        same("years(" + years + ")", x.years(years), y.years(years));
        break;
      case 10:
        for (int i = 1 + r(r(8) == 0 ? 10 : 2); i > 0; i--) {
          same("undo()", x.undo(), y.undo());
        }
        break;
      default: return rareStep();
    }
    return 1;
  }

  private int rareStep() {
    int k = r(30) == 0 ? any() : r(4) - 1;
    switch (r(4)) {
      case 0: same("image(" + k + ")", x.image(k), y.image(k)); break;
      case 1:
        if (r(3) == 0) {
          same("restore(" + k + ")", x.restore(k), y.restore(k));
        }
        break;
      default:
        int n = r(30) == 0 ? any() : r(3) == 0 ? r(34) - 1 : 1 + r(3);
        int seed = random.nextInt();
        same("drawn(" + n + ", " + seed + ")", x.drawn(n, seed), y.drawn(n, seed));
    }
    return 1;
  }

  private int askStep() {
    int m = m();
    int k = m();
    int d = d();
    switch (r(24)) {
      case 0: return manToo(m);
      case 1: same("did", x.did(m, d), y.did(m, d)); break;
      case 2: same("deed", x.deed(d, k), y.deed(d, k)); break;
      case 3: same("owes", x.owes(m, k), y.owes(m, k)); break;
      case 4: same("kin", x.kin(m), y.kin(m)); break;
      case 5:
        int c = r(30) == 0 ? any() : r(210) - 5;
        same("cell(" + m + ", " + c + ")", x.cell(m, c), y.cell(m, c));
        break;
      case 6: same("kept(" + m + ", " + k + ")", x.kept(m, k), y.kept(m, k)); break;
      case 7: case 8: same("now(" + d + ")", x.now(d), y.nowIs(d)); break;
      case 9: same("family", x.family(m), y.family(m)); break;
      case 10:
        int some = r(r(4) == 0 ? 256 : 1 << Math.min(7, men));
        int others = r(5) == 0 ? random.nextInt() : r(1 << Math.min(7, men)) & ~some;
        same("balance(" + some + ", " + others + ")", x.balance(some, others), y.balance(some, others));
        break;
      case 11: case 12:
        same("help(" + m + ")", x.help(m), y.help(m));
        same("helping()", x.helping(), y.helping);
        return 2;
      case 13: case 14: return mayToo();
      case 15: case 16: return careerToo(m);
      case 17: same("hide(" + m + ")", x.hide(m), y.hide(m)); break;
      case 18: same("heaviest()", x.heaviest(), y.heaviest()); break;
      case 19: return captionToo(m);
      case 20:
        int n = r(30) == 0 ? any() : r(8) == 0 ? r(34) - 1 : 1 + r(6);
        int seed = r(4) == 0 ? Integer.MAX_VALUE - r(3) : random.nextInt();
        same("odds(" + m + ", " + n + ", " + seed + ")", x.odds(m, n, seed), y.odds(m, n, seed));
        break;
      case 21: return saidToo();
      case 22:
        return rowsToo();
      default: same("count(" + d + ")", x.count(d), y.count(d));
    }
    return 1;
  }

  private int manToo(int m) {
    for (int what = -1; what < 9; what++) {
      long got = manOr(what, m, true);
      same("man(" + m + ", " + what + ")", got, manOr(what, m, false));
    }
    return 10;
  }

  private long manOr(int what, int m, boolean ofClass) {
    try {
      return ofClass ? x.man(m, what) : y.man(m, what);
    } catch (NoSuchElementException e) {
      return Long.MIN_VALUE;
    }
  }

  private int mayToo() {
    int white = r(2) == 0 ? r(40) : r(256);
    int dark = r(2) == 0 ? 0 : r(2) == 0 ? r(30) : r(256);
    StringBuilder t = new StringBuilder().append((char) white).append((char) dark);
    int n = put(r(10) == 0 ? t.append('x').substring(r(3), 3) : t.toString());
    same("may()", x.may(), y.may());
    return n + 1 + rowsToo();
  }

  private int careerToo(int m) {
    int k = r(30) == 0 ? any() : r(6) == 0 ? r(13) - 1 : r(5);
    same("career(" + m + ", " + k + ")", x.career(m, k), y.career(m, k));
    return 1 + rowsToo();
  }

  private int rowsToo() {
    for (int d = -1; d < 11; d++) {
      same("mayBe(" + d + ")", x.mayBe(d), y.mayBe(d));
      same("careerOf(" + d + ")", x.careerOf(d), y.careerOf(d));
    }
    return 24;
  }

  private int captionToo(int m) {
    same("caption(" + m + ")", x.caption(m), y.caption(m));
    for (int i = -1; i < 32; i++) {
      same("byteAt(" + i + ")", x.byteAt(i), y.byteAt(i));
    }
    return 34;
  }
}
