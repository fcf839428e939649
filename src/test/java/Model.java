import java.util.ArrayDeque;
import java.util.ArrayList;
import java.util.Arrays;
import java.util.Deque;
import java.util.HashMap;
import java.util.LinkedHashMap;
import java.util.List;
import java.util.Map;
import java.util.NoSuchElementException;
import java.util.Set;
import java.util.TreeSet;

/** The document once more, written apart from the class: slow, with the whole library, for random runs beside it. */
final class Model {
  static final int NONE = -1;

  static final class Fault extends RuntimeException {
    final int kind;
    final int place;

    Fault(int kind, int place) {
      super(null, null, false, false);
      this.kind = kind;
      this.place = place;
    }
  }

  static final class Token {
    final String text;
    final int place;

    Token(String text, int place) {
      this.text = text;
      this.place = place;
    }

    boolean isWord() {
      return text != null && text.matches("[a-z]{1,7}");
    }

    boolean isNumber() {
      return text != null && text.matches("[0-9]{1,3}");
    }

    boolean is(String what) {
      return what.equals(text);
    }
  }

  static final Set<String> WORDS = new TreeSet<>(Arrays.asList(("man deed good crime did kin owes plate faint does lends "
      + "returns borrows pays sits year or and not seen full taken lending has akin white dark age number").split(" ")));

  /** A token whose text is null stands where the text ends or the most bytes are; the empty text is no token. */
  static List<Token> tokens(List<Integer> bytes, int most) {
    List<Token> all = new ArrayList<>();
    int i = 0;
    while (i < bytes.size()) {
      if (i >= most) {
        break;
      }
      int c = bytes.get(i);
      if (c == 32 || c == 10) {
        i++;
        continue;
      }
      int j = i;
      StringBuilder run = new StringBuilder();
      while (j < bytes.size() && String.valueOf((char) (int) bytes.get(j)).matches("[a-z0-9]")) {
        run.append((char) (int) bytes.get(j));
        j++;
      }
      if (j == i) {
        run.append((char) c);
        j++;
      }
      String s = run.toString();
      boolean token = s.matches("[a-z]{1,7}|[0-9]{1,3}|[;<=>()]");
      all.add(new Token(token ? s : "", i));
      i = j;
    }
    if (bytes.size() > most) {
      all.add(new Token("", most));
    } else {
      all.add(new Token(null, bytes.size()));
    }
    return all;
  }

  static final class Man {
    String name;
    int age;
    Map<String, Integer> did = new LinkedHashMap<>();
    Map<String, Integer> owes = new LinkedHashMap<>();
    Set<String> kin = new TreeSet<>();
    String lendsTo;
    String lendsDeed;
    int sat;
    int[] kept;

    Man copy() {
      Man m = new Man();
      m.name = name;
      m.age = age;
      m.did.putAll(did);
      m.owes.putAll(owes);
      m.kin.addAll(kin);
      m.lendsTo = lendsTo;
      m.lendsDeed = lendsDeed;
      m.sat = sat;
      m.kept = kept;
      return m;
    }
  }

  static final class Deed {
    String name;
    boolean crime;
    int weight;
  }

  static final class State {
    List<Man> men = new ArrayList<>();
    List<Deed> deeds = new ArrayList<>();
    int room = 60;
    int faint = 10;
    int year;

    State copy() {
      State s = new State();
      for (Man m : men) {
        s.men.add(m.copy());
      }
      s.deeds = deeds;
      s.room = room;
      s.faint = faint;
      s.year = year;
      return s;
    }

    int man(String name) {
      for (int i = 0; i < men.size(); i++) {
        if (men.get(i).name.equals(name)) {
          return i;
        }
      }
      return NONE;
    }

    int deed(String name) {
      for (int i = 0; i < deeds.size(); i++) {
        if (deeds.get(i).name.equals(name)) {
          return i;
        }
      }
      return NONE;
    }

    int[] likeness(int m) {
      int[] sides = new int[2];
      Man man = men.get(m);
      for (Deed d : deeds) {
        int times = man.did.getOrDefault(d.name, 0);
        if (d.name.equals(man.lendsDeed)) {
          times--;
        }
        for (Man k : men) {
          if (man.name.equals(k.lendsTo) && d.name.equals(k.lendsDeed)) {
            times++;
          }
        }
        sides[d.crime ? 1 : 0] += times * d.weight;
      }
      sides[1] += owed(m);
      return sides;
    }

    int owed(int m) {
      return men.get(m).owes.values().stream().mapToInt(Integer::intValue).sum();
    }

    int weight(int m) {
      int[] sides = likeness(m);
      return sides[0] + sides[1];
    }

    int how(int m) {
      int w = weight(m);
      return w < faint ? 0 : w > room ? 2 : 1;
    }

    int doDeed(int m, int d) {
      String name = deeds.get(d).name;
      int times = men.get(m).did.getOrDefault(name, 0);
      if (times == 9) {
        return 1;
      }
      men.get(m).did.put(name, times + 1);
      return 0;
    }

    int lend(int m, int k, int d) {
      Man man = men.get(m);
      if (!man.kin.contains(men.get(k).name)) {
        return 1;
      }
      if (man.lendsTo != null) {
        return 2;
      }
      if (man.did.getOrDefault(deeds.get(d).name, 0) == 0) {
        return 3;
      }
      man.lendsTo = men.get(k).name;
      man.lendsDeed = deeds.get(d).name;
      return 0;
    }

    int back(int m) {
      Man man = men.get(m);
      if (man.lendsTo == null) {
        return 1;
      }
      man.lendsTo = null;
      man.lendsDeed = null;
      return 0;
    }

    int borrow(int m, int k, int n) {
      String of = men.get(k).name;
      if (m == k) {
        return 1;
      }
      int sum = men.get(m).owes.getOrDefault(of, 0) + n;
      if (sum > 99) {
        return 2;
      }
      men.get(m).owes.put(of, sum);
      return 0;
    }

    int pay(int m, int k, int n) {
      String to = men.get(k).name;
      int left = men.get(m).owes.getOrDefault(to, 0) - n;
      if (left < 0) {
        return 1;
      }
      men.get(m).owes.put(to, left);
      return 0;
    }

    int sit(int m) {
      Man man = men.get(m);
      if (man.sat > 0 && (man.age < 60 || man.kept[3] >= 60)) {
        return 1;
      }
      int[] sides = likeness(m);
      man.sat++;
      man.kept = new int[] {sides[0], sides[1], year, man.age};
      return 0;
    }

    boolean pass() {
      if (year == 200) {
        return false;
      }
      for (int m = 0; m < men.size(); m++) {
        men.get(m).age++;
        back(m);
      }
      year++;
      return true;
    }

    int draws(int n, int seed) {
      int[] x = {seed};
      for (int i = 0; i < n; i++) {
        if (year == 200) {
          return i;
        }
        for (int m = 0; m < men.size(); m++) {
          int what = draw(x, 6);
          if (what == 0 || what == 1) {
            int d = draw(x, deeds.size());
            if (d >= 0) {
              doDeed(m, d);
            }
          } else if (what == 2) {
            int k = draw(x, men.size());
            int d = draw(x, deeds.size());
            if (d >= 0) {
              lend(m, k, d);
            }
          } else if (what == 3) {
            sit(m);
          }
        }
        pass();
      }
      return n;
    }

    static int draw(int[] x, int n) {
      if (n == 0) {
        return NONE;
      }
      x[0] = x[0] * 1103515245 + 12345;
      return (x[0] >>> 8) % n;
    }

    int family(int m) {
      int bits = 0;
      Deque<Integer> open = new ArrayDeque<>();
      open.add(m);
      while (!open.isEmpty()) {
        int k = open.remove();
        if ((bits >> k & 1) == 0) {
          bits |= 1 << k;
          for (String name : men.get(k).kin) {
            open.add(man(name));
          }
        }
      }
      return bits;
    }

    int bits(java.util.function.IntPredicate is) {
      int bits = 0;
      for (int m = 0; m < men.size(); m++) {
        bits |= is.test(m) ? 1 << m : 0;
      }
      return bits;
    }
  }

  interface Cond {
    boolean of(State s, int m);
  }

  List<Integer> tape = new ArrayList<>();
  State s = new State();
  Cond sentence;
  Deque<State> past = new ArrayDeque<>();
  State[] imageState = new State[2];
  Cond[] imageSentence = new Cond[2];
  int fault;
  int helping = NONE;
  int[] mayRow;
  int[] careerRow;
  String caption = "";
  int[] told;

  List<Token> text;
  int at;

  Token now() {
    return text.get(at);
  }

  Token take(boolean can) {
    if (!can) {
      throw new Fault(1, now().place);
    }
    return text.get(at++);
  }

  Token takeName() {
    return take(now().isWord() && !WORDS.contains(now().text));
  }

  int takeNumber(int least, int most) {
    Token t = take(now().isNumber());
    int n = Integer.parseInt(t.text);
    if (n < least || n > most) {
      throw new Fault(2, t.place);
    }
    return n;
  }

  int takeMan(State c) {
    Token t = takeName();
    if (c.man(t.text) < 0) {
      throw new Fault(3, t.place);
    }
    return c.man(t.text);
  }

  int takeDeed(State c) {
    Token t = takeName();
    if (c.deed(t.text) < 0) {
      throw new Fault(3, t.place);
    }
    return c.deed(t.text);
  }

  void open(int most) {
    text = tokens(tape, most);
    at = 0;
    tape = new ArrayList<>();
    fault = 0;
  }

  int feed(int... five) {
    if (tape.size() + 20 > 940) {
      return NONE;
    }
    for (int n : five) {
      for (int i = 3; i >= 0; i--) {
        tape.add(n >> 8 * i & 255);
      }
    }
    return tape.size();
  }

  boolean end(int n) {
    if (n < 0 || n > tape.size()) {
      return false;
    }
    tape = new ArrayList<>(tape.subList(0, n));
    return true;
  }

  int colony() {
    open(900);
    State c = new State();
    int lines = 0;
    try {
      Set<String> once = new TreeSet<>();
      while (now().text != null) {
        readLine(c, once);
        take(now().is(";"));
        lines++;
      }
    } catch (Fault f) {
      fault = f.kind;
      return -1 - f.place;
    }
    s = c;
    sentence = null;
    past.clear();
    return lines;
  }

  void readLine(State c, Set<String> once) {
    Token first = take(now().isWord() && Set.of("man", "deed", "did", "kin", "owes", "plate", "faint").contains(now().text));
    int place;
    switch (first.text) {
      case "man":
        if (c.men.size() == 7) {
          throw new Fault(4, first.place);
        }
        Man man = new Man();
        man.name = newName(c);
        man.age = takeNumber(0, 90);
        c.men.add(man);
        break;
      case "deed":
        if (c.deeds.size() == 10) {
          throw new Fault(4, first.place);
        }
        Deed deed = new Deed();
        deed.name = newName(c);
        deed.crime = take(now().is("good") || now().is("crime")).is("crime");
        deed.weight = takeNumber(1, 40);
        c.deeds.add(deed);
        break;
      case "did": {
        int m = takeMan(c);
        place = now().place;
        int d = takeDeed(c);
        if (!once.add("did " + m + " " + d)) {
          throw new Fault(3, place);
        }
        c.men.get(m).did.put(c.deeds.get(d).name, takeNumber(1, 9));
        break;
      }
      case "kin": {
        int m = takeMan(c);
        place = now().place;
        int k = takeMan(c);
        if (m == k || !once.add("kin " + Math.min(m, k) + " " + Math.max(m, k))) {
          throw new Fault(3, place);
        }
        c.men.get(m).kin.add(c.men.get(k).name);
        c.men.get(k).kin.add(c.men.get(m).name);
        break;
      }
      case "owes": {
        int m = takeMan(c);
        place = now().place;
        int k = takeMan(c);
        if (m == k || !once.add("owes " + m + " " + k)) {
          throw new Fault(3, place);
        }
        c.men.get(m).owes.put(c.men.get(k).name, takeNumber(1, 40));
        break;
      }
      default:
        if (!once.add(first.text)) {
          throw new Fault(3, first.place);
        }
        if (first.is("plate")) {
          c.room = takeNumber(1, 200);
        } else {
          c.faint = takeNumber(0, 60);
        }
    }
  }

  String newName(State c) {
    Token t = takeName();
    if (c.man(t.text) >= 0 || c.deed(t.text) >= 0) {
      throw new Fault(3, t.place);
    }
    return t.text;
  }

  int[] readBookLine(int lines) {
    Token first = now();
    int[] line = new int[4];
    if (first.is("year")) {
      take(true);
    } else {
      line[0] = takeMan(s);
    }
    if (lines == 40) {
      throw new Fault(4, first.place);
    }
    if (first.is("year")) {
      line[1] = 6;
      line[3] = takeNumber(1, 30);
      return line;
    }
    String verb = take(now().isWord() && Set.of("does", "lends", "returns", "borrows", "pays", "sits").contains(now().text)).text;
    line[1] = Arrays.asList("does", "lends", "returns", "borrows", "pays", "sits").indexOf(verb);
    if (line[1] == 1 || line[1] == 3 || line[1] == 4) {
      line[2] = takeMan(s);
    }
    if (line[1] < 2) {
      line[3] = takeDeed(s);
    } else if (line[1] == 3 || line[1] == 4) {
      line[3] = takeNumber(1, 40);
    }
    return line;
  }

  static int live(State c, int[] line) {
    int why;
    switch (line[1]) {
      case 0: why = c.doDeed(line[0], line[3]); break;
      case 1: why = c.lend(line[0], line[2], line[3]); break;
      case 2: why = c.back(line[0]); break;
      case 3: why = c.borrow(line[0], line[2], line[3]); break;
      case 4: why = c.pay(line[0], line[2], line[3]); break;
      case 5: why = c.sit(line[0]); break;
      default:
        if (c.year + line[3] > 200) {
          return 61;
        }
        for (int i = 0; i < line[3]; i++) {
          c.pass();
        }
        return 0;
    }
    return why == 0 ? 0 : line[1] * 10 + why;
  }

  int book(int lives) {
    if (lives != 0 && lives != 1) {
      return -1000;
    }
    open(400);
    List<int[]> lines = new ArrayList<>();
    try {
      while (now().text != null) {
        lines.add(readBookLine(lines.size()));
        take(now().is(";"));
      }
    } catch (Fault f) {
      fault = f.kind;
      return -2 - f.place;
    }
    State c = s.copy();
    int wrong = NONE;
    int why = 0;
    for (int i = 0; i < lines.size() && why == 0; i++) {
      why = live(c, lines.get(i));
      wrong = why == 0 ? NONE : i;
    }
    State then = c;
    told = new int[] {why, why == 0 ? lines.size() : wrong, c.year, c.bits(m -> then.how(m) == 1)};
    if (lives == 1) {
      done(s);
      s = c;
    }
    return wrong;
  }

  void done(State before) {
    past.addLast(before);
    if (past.size() > 8) {
      past.removeFirst();
    }
  }

  int ones;

  int sentence() {
    open(200);
    ones = 0;
    try {
      Cond c = cond(1);
      take(now().text == null);
      sentence = c;
      return ones;
    } catch (Fault f) {
      fault = f.kind;
      return -1 - f.place;
    }
  }

  Cond cond(int depth) {
    Cond first = all(depth);
    while (now().is("or")) {
      take(true);
      Cond a = first;
      Cond b = all(depth);
      first = (c, m) -> a.of(c, m) || b.of(c, m);
    }
    return first;
  }

  Cond all(int depth) {
    Cond first = one(depth);
    while (now().is("and")) {
      take(true);
      Cond a = first;
      Cond b = one(depth);
      first = (c, m) -> a.of(c, m) && b.of(c, m);
    }
    return first;
  }

  Cond one(int depth) {
    Token t = take(now().text != null && Set.of("not", "(", "seen", "faint", "full", "taken", "lending", "has", "akin",
        "white", "dark", "age", "number").contains(now().text));
    ones++;
    if (ones > 20 || depth > 8) {
      throw new Fault(4, t.place);
    }
    switch (t.text) {
      case "not": {
        Cond a = one(depth + 1);
        return (c, m) -> !a.of(c, m);
      }
      case "(": {
        Cond a = cond(depth + 1);
        take(now().is(")"));
        return a;
      }
      case "faint": return (c, m) -> c.how(m) == 0;
      case "seen": return (c, m) -> c.how(m) == 1;
      case "full": return (c, m) -> c.how(m) == 2;
      case "taken": return (c, m) -> c.men.get(m).sat > 0;
      case "lending": return (c, m) -> c.men.get(m).lendsTo != null;
      case "has": {
        String d = s.deeds.get(takeDeed(s)).name;
        return (c, m) -> c.men.get(m).did.getOrDefault(d, 0) > 0;
      }
      case "akin": {
        int k = takeMan(s);
        return (c, m) -> (c.family(m) >> k & 1) == 1;
      }
      default: {
        String sign = take(now().is("<") || now().is("=") || now().is(">")).text;
        int n = takeNumber(0, 999);
        return (c, m) -> {
          int v = t.is("white") ? c.likeness(m)[0] : t.is("dark") ? c.likeness(m)[1] : t.is("age") ? c.men.get(m).age : m;
          return sign.equals("<") ? v < n : sign.equals(">") ? v > n : v == n;
        };
      }
    }
  }

  int said(int k) {
    if (sentence == null || k < -1) {
      return NONE;
    }
    List<Integer> who = new ArrayList<>();
    for (int m = 0; m < s.men.size(); m++) {
      if (sentence.of(s, m)) {
        who.add(m);
      }
    }
    return k == -1 ? who.size() : k < who.size() ? who.get(k) : NONE;
  }

  boolean isMan(int m) {
    return m >= 0 && m < s.men.size();
  }

  boolean isDeed(int d) {
    return d >= 0 && d < s.deeds.size();
  }

  int man(int m, int what) {
    if (!isMan(m) || what < 0 || what > 7) {
      throw new NoSuchElementException();
    }
    Man x = s.men.get(m);
    return new int[] {x.age, s.likeness(m)[0], s.likeness(m)[1], s.how(m), x.lendsTo == null ? NONE : s.man(x.lendsTo),
        x.lendsDeed == null ? NONE : s.deed(x.lendsDeed), s.owed(m), x.sat}[what];
  }

  int did(int m, int d) {
    return isMan(m) && isDeed(d) ? s.men.get(m).did.getOrDefault(s.deeds.get(d).name, 0) : NONE;
  }

  int deed(int d, int what) {
    if (!isDeed(d) || what < 0 || what > 2) {
      return NONE;
    }
    int sum = 0;
    for (int m = 0; m < s.men.size(); m++) {
      sum += did(m, d);
    }
    return new int[] {s.deeds.get(d).weight, s.deeds.get(d).crime ? 1 : 0, sum}[what];
  }

  int owes(int m, int k) {
    return isMan(m) && isMan(k) ? s.men.get(m).owes.getOrDefault(s.men.get(k).name, 0) : NONE;
  }

  int kin(int m) {
    return isMan(m) ? s.bits(k -> s.men.get(m).kin.contains(s.men.get(k).name)) : NONE;
  }

  int[] plate(int m) {
    int[] cells = new int[s.room];
    int[] sides = s.likeness(m);
    for (int i = 0; i < Math.min(sides[1], s.room); i++) {
      cells[s.room - 1 - i] = 2;
    }
    for (int i = 0; i < Math.min(sides[0], s.room); i++) {
      cells[i] = 1;
    }
    return cells;
  }

  int cell(int m, int k) {
    return isMan(m) && k >= 0 && k < s.room ? plate(m)[k] : NONE;
  }

  int kept(int m, int what) {
    return isMan(m) && what >= 0 && what < 4 && s.men.get(m).sat > 0 ? s.men.get(m).kept[what] : NONE;
  }

  int nowIs(int what) {
    int[] all = new int[2];
    int sat = 0;
    for (int m = 0; m < s.men.size(); m++) {
      all[0] += s.likeness(m)[0];
      all[1] += s.likeness(m)[1];
      sat += s.men.get(m).sat;
    }
    switch (what) {
      case 0: return s.year;
      case 1: return s.bits(m -> s.how(m) == 0);
      case 2: return s.bits(m -> s.how(m) == 1);
      case 3: return s.bits(m -> s.how(m) == 2);
      case 4: return s.bits(m -> s.men.get(m).lendsTo != null);
      case 5: return all[0];
      case 6: return all[1];
      case 7: return sat;
      default: return NONE;
    }
  }

  int did(State before, int why) {
    if (why == 0) {
      done(before);
    }
    return why;
  }

  int act(int m, int d) {
    State before = s.copy();
    return isMan(m) && isDeed(d) ? did(before, s.doDeed(m, d)) : NONE;
  }

  int lend(int m, int k, int d) {
    State before = s.copy();
    return isMan(m) && isMan(k) && isDeed(d) ? did(before, s.lend(m, k, d)) : NONE;
  }

  int back(int m) {
    State before = s.copy();
    return isMan(m) ? did(before, s.back(m)) : NONE;
  }

  int borrow(int m, int k, int n) {
    State before = s.copy();
    return isMan(m) && isMan(k) && n > 0 && n <= 40 ? did(before, s.borrow(m, k, n)) : NONE;
  }

  int pay(int m, int k, int n) {
    State before = s.copy();
    return isMan(m) && isMan(k) && n > 0 && n <= 40 ? did(before, s.pay(m, k, n)) : NONE;
  }

  int sit(int m) {
    State before = s.copy();
    return isMan(m) ? did(before, s.sit(m)) : NONE;
  }

  int years(int n) {
    if (n < 1 || n > 30) {
      return NONE;
    }
    State before = s.copy();
    int gone = 0;
    while (gone < n && s.pass()) {
      gone++;
    }
    did(before, gone > 0 ? 0 : 1);
    return gone;
  }

  int undo() {
    if (past.isEmpty()) {
      return NONE;
    }
    s = past.removeLast();
    return past.size();
  }

  int family(int m) {
    return isMan(m) ? s.family(m) : NONE;
  }

  int balance(int some, int others) {
    for (int i = 0; i < 32; i++) {
      boolean a = (some >> i & 1) == 1;
      boolean b = (others >> i & 1) == 1;
      if (a && b || (a || b) && i >= s.men.size()) {
        return NONE;
      }
    }
    int left = 0;
    int right = 0;
    for (int m = 0; m < s.men.size(); m++) {
      left += (some >> m & 1) * s.weight(m);
      right += (others >> m & 1) * s.weight(m);
    }
    return left == right ? 0 : left > right ? 1 : 2;
  }

  /** Lends in truth, on copies, and looks who is faint then. */
  int help(int m) {
    if (!isMan(m)) {
      return NONE;
    }
    for (int size = 0; size <= s.men.size(); size++) {
      for (int bits = 0; bits < 1 << s.men.size(); bits++) {
        if (Integer.bitCount(bits) == size && helps(m, bits)) {
          helping = bits;
          return size;
        }
      }
    }
    return NONE;
  }

  boolean helps(int m, int bits) {
    State c = s.copy();
    for (int k = 0; k < s.men.size(); k++) {
      if ((bits >> k & 1) == 1) {
        int d = bestLoan(k, m);
        if (d < 0 || c.lend(k, m, d) != 0) {
          return false;
        }
      }
    }
    return c.how(m) != 0;
  }

  int bestLoan(int k, int m) {
    int best = NONE;
    for (int d = 0; d < s.deeds.size(); d++) {
      State c = s.copy();
      if (c.lend(k, m, d) != 0 || s.how(k) != 0 && c.how(k) == 0) {
        continue;
      }
      if (best < 0 || s.deeds.get(d).weight > s.deeds.get(best).weight) {
        best = d;
      }
    }
    return best;
  }

  long may() {
    List<Integer> two = tape;
    tape = new ArrayList<>();
    if (two.size() != 2) {
      return NONE;
    }
    Map<List<Integer>, Long> ways = new HashMap<>();
    long rows = rows(0, two.get(0), two.get(1), ways);
    if (rows > 0) {
      mayRow = smallest(0, two.get(0), two.get(1), new HashMap<>());
    }
    return rows;
  }

  long rows(int d, int white, int dark, Map<List<Integer>, Long> known) {
    if (white < 0 || dark < 0) {
      return 0;
    }
    if (d == s.deeds.size()) {
      return white == 0 && dark == 0 ? 1 : 0;
    }
    List<Integer> key = List.of(d, white, dark);
    Long k = known.get(key);
    if (k != null) {
      return k;
    }
    long sum = 0;
    Deed x = s.deeds.get(d);
    for (int n = 0; n <= 9; n++) {
      sum += rows(d + 1, white - (x.crime ? 0 : n * x.weight), dark - (x.crime ? n * x.weight : 0), known);
    }
    known.put(key, sum);
    return sum;
  }

  static int total(int[] row) {
    return Arrays.stream(row).sum();
  }

  int[] smallest(int d, int white, int dark, Map<List<Integer>, int[]> known) {
    if (white < 0 || dark < 0) {
      return null;
    }
    if (d == s.deeds.size()) {
      return white == 0 && dark == 0 ? new int[s.deeds.size()] : null;
    }
    List<Integer> key = List.of(d, white, dark);
    if (known.containsKey(key)) {
      return known.get(key);
    }
    int[] best = null;
    Deed x = s.deeds.get(d);
    for (int n = 0; n <= 9; n++) {
      int[] rest = smallest(d + 1, white - (x.crime ? 0 : n * x.weight), dark - (x.crime ? n * x.weight : 0), known);
      if (rest != null) {
        int[] row = rest.clone();
        row[d] = n;
        if (best == null || total(row) < total(best)) {
          best = row;
        }
      }
    }
    known.put(key, best);
    return best;
  }

  int mayBe(int d) {
    return mayRow != null && d >= 0 && d < mayRow.length ? mayRow[d] : NONE;
  }

  int[] bestCareer;
  int bestWeight;

  int career(int m, int k) {
    if (!isMan(m) || k < 0 || k > 10 || s.weight(m) > s.room) {
      return NONE;
    }
    bestCareer = null;
    bestWeight = -1;
    tryCareer(m, k, 0, s.weight(m), new int[s.deeds.size()]);
    careerRow = bestCareer;
    return bestWeight;
  }

  /** All rows, in their order, so that of like ones the first stays. */
  void tryCareer(int m, int k, int d, int weight, int[] row) {
    if (weight > s.room) {
      return;
    }
    if (d == s.deeds.size()) {
      if (weight > bestWeight || weight == bestWeight && total(row) < total(bestCareer)) {
        bestWeight = weight;
        bestCareer = row.clone();
      }
      return;
    }
    for (int n = 0; n <= k && did(m, d) + n <= 9; n++) {
      row[d] = n;
      tryCareer(m, k - n, d + 1, weight + n * s.deeds.get(d).weight, row);
    }
    row[d] = 0;
  }

  int careerOf(int d) {
    return careerRow != null && d >= 0 && d < careerRow.length ? careerRow[d] : NONE;
  }

  int hide(int m) {
    if (!isMan(m)) {
      return NONE;
    }
    int dark = 0;
    for (int c : plate(m)) {
      dark += c == 2 ? 1 : 0;
    }
    if (dark == 0) {
      return 0;
    }
    List<Integer> more = new ArrayList<>();
    for (int d = 0; d < s.deeds.size(); d++) {
      for (int n = did(m, d); n < 9 && !s.deeds.get(d).crime; n++) {
        more.add(s.deeds.get(d).weight);
      }
    }
    // The most white by so many deeds.
    int[] most = new int[more.size() + 1];
    for (int w : more) {
      for (int n = most.length - 1; n > 0; n--) {
        most[n] = Math.max(most[n], most[n - 1] + w);
      }
    }
    for (int n = 0; n < most.length; n++) {
      if (s.likeness(m)[0] + most[n] >= s.room) {
        return n;
      }
    }
    return NONE;
  }

  int heaviest() {
    int best = NONE;
    for (int m = s.men.size() - 1; m >= 0; m--) {
      best = best < 0 || s.weight(m) >= s.weight(best) ? m : best;
    }
    return best;
  }

  int caption(int m) {
    if (!isMan(m)) {
      return NONE;
    }
    String name = s.men.get(m).name;
    int[] sides = s.likeness(m);
    caption = s.how(m) == 2 ? "no room" : s.how(m) == 0 ? name + " is faint" : name + " white " + sides[0] + " dark " + sides[1];
    return caption.length();
  }

  int byteAt(int i) {
    return i >= 0 && i < caption.length() ? caption.charAt(i) : NONE;
  }

  int drawn(int n, int seed) {
    if (n < 1 || n > 30 || s.men.isEmpty()) {
      return NONE;
    }
    State before = s.copy();
    int gone = s.draws(n, seed);
    did(before, gone > 0 ? 0 : 1);
    return gone;
  }

  int odds(int m, int n, int seed) {
    if (!isMan(m) || n < 1 || n > 30) {
      return NONE;
    }
    int seen = 0;
    for (int i = 0; i < n; i++) {
      State c = s.copy();
      c.draws(10, seed + i);
      seen += c.how(m) == 1 ? 1 : 0;
    }
    return seen;
  }

  int told(int what) {
    return told == null || what < 0 || what > 3 ? NONE : told[what];
  }

  boolean image(int k) {
    if (k != 0 && k != 1) {
      return false;
    }
    imageState[k] = s.copy();
    imageSentence[k] = sentence;
    return true;
  }

  boolean restore(int k) {
    if (k != 0 && k != 1 || imageState[k] == null) {
      return false;
    }
    s = imageState[k].copy();
    sentence = imageSentence[k];
    past.clear();
    return true;
  }

  int count(int what) {
    return what < 0 || what > 4 ? NONE
        : new int[] {s.men.size(), s.deeds.size(), s.room, s.faint, tape.size()}[what];
  }
}
