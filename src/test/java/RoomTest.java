import java.lang.management.ManagementFactory;
import java.lang.reflect.Array;
import java.lang.reflect.Field;
import java.lang.reflect.Modifier;
import java.util.ArrayDeque;
import java.util.Collections;
import java.util.Deque;
import java.util.IdentityHashMap;
import java.util.Set;

/** The room: an object is small, does not grow by its calls, and calls make nothing new (LANGUAGE.md, rule 12). */
public final class RoomTest {
  private static final int MOST_OBJECTS = 300;
  private static final int MOST_ELEMENTS = 10_000;
  /** Some bytes for what the machine itself may make; one array of ten numbers a call would be twice as many. */
  private static final long MOST_BYTES = 500;
  private static final int CALLS = 20;
  private static final int SORTS = 21;

  private static final int[] COLONY = numbers("man ann 58; man bob 30; man cid 9; deed aid good 12; deed lie crime 7;"
      + "deed hum good 1; did bob aid 2; did cid hum 9; kin ann bob; kin cid bob; owes ann bob 4; plate 180;");
  private static final int[] BOOK = numbers("bob does aid; ann sits; year 3; bob lends ann aid;");
  private static final int[] SENTENCE = numbers("seen and not ( faint or has aid ) or akin ann and white < 20");

  public static void main(String[] args) {
    LikenessPound fresh = new LikenessPound();
    long[] before = sizeOf(fresh);
    Checks.due("objects of a new one are few: " + before[0], before[0] <= MOST_OBJECTS, true);
    Checks.due("elements of a new one are few: " + before[1], before[1] <= MOST_ELEMENTS, true);
    live(fresh);
    long[] behind = sizeOf(fresh);
    Checks.due("objects behind a run", behind[0], before[0]);
    Checks.due("elements behind a run", behind[1], before[1]);
    made();
    Checks.finish("RoomTest");
  }

  /** Of some rounds the least counts, as the machine makes things of its own in the first ones. */
  private static void made() {
    com.sun.management.ThreadMXBean threads = (com.sun.management.ThreadMXBean) ManagementFactory.getThreadMXBean();
    if (!threads.isThreadAllocatedMemorySupported()) {
      return;
    }
    long id = Thread.currentThread().getId();
    for (int sort = 0; sort < SORTS; sort++) {
      long least = Long.MAX_VALUE;
      for (int round = 0; round < 5; round++) {
        LikenessPound x = new LikenessPound();
        live(x);
        long start = threads.getThreadAllocatedBytes(id);
        for (int i = 0; i < CALLS; i++) {
          call(x, sort, i);
        }
        least = Math.min(least, threads.getThreadAllocatedBytes(id) - start);
      }
      Checks.due("bytes made by calls of sort " + sort + " are few: " + least, least <= MOST_BYTES, true);
    }
  }

  /** Each sort of call once, and the exception that man() must make. */
  private static void live(LikenessPound x) {
    for (int sort = 0; sort < SORTS; sort++) {
      call(x, sort, sort);
    }
    Checks.dueNoSuch(x, 9, 9);
  }

  private static int[] numbers(String text) {
    int[] all = new int[(text.length() + 19) / 20 * 5];
    for (int i = 0; i < all.length * 4; i++) {
      all[i / 4] = all[i / 4] << 8 | (i < text.length() ? text.charAt(i) : ' ');
    }
    return all;
  }

  private static void feed(LikenessPound x, int[] text) {
    for (int i = 0; i < text.length; i += 5) {
      x.feed(text[i], text[i + 1], text[i + 2], text[i + 3], text[i + 4]);
    }
  }

  private static void call(LikenessPound x, int sort, int i) {
    switch (sort) {
      case 0: feed(x, COLONY); x.colony(); break;
      case 1: feed(x, BOOK); x.book(1); break;
      case 2: feed(x, SENTENCE); x.sentence(); x.said(-1); break;
      case 3: x.feed(0x24070000, 0, 0, 0, 0); x.end(2); x.may(); x.mayBe(0); break;
      case 4: x.career(i % 3, 10); x.careerOf(0); break;
      case 5: x.odds(i % 3, 2, i); break;
      case 6: x.drawn(1, i); x.undo(); break;
      case 7: x.help(0); x.helping(); break;
      case 8: x.act(i % 3, i % 3); break;
      case 9: x.lend(1, 0, 0); x.back(1); break;
      case 10: x.borrow(0, 1, 9); x.pay(0, 1, 9); break;
      case 11: x.sit(i % 3); x.kept(0, 0); break;
      case 12: x.years(1); x.undo(); break;
      case 13: x.image(i % 2); x.restore(i % 2); break;
      case 14: x.feed(i, i, i, i, i); x.end(0); break;
      case 15: x.hide(i % 3); x.heaviest(); x.family(0); x.balance(1, 6); break;
      case 16: x.man(i % 3, i % 8); x.now(i % 8); x.deed(0, i % 3); break;
      case 17: x.cell(0, i); x.did(0, 0); x.owes(0, 1); x.kin(1); x.count(4); x.told(0); x.fault(); break;
      case 18: x.caption(i % 3); x.byteAt(i); break;
      case 19: x.said(0); x.told(3); break;
      default: x.act(-i, 99); x.years(0); x.book(7);
    }
  }

  /** How many objects and arrays an object holds, and how many fields and elements they have. */
  private static long[] sizeOf(Object root) {
    Set<Object> seen = Collections.newSetFromMap(new IdentityHashMap<>());
    Deque<Object> open = new ArrayDeque<>();
    open.add(root);
    seen.add(root);
    long[] size = new long[2];
    while (!open.isEmpty()) {
      Object o = open.remove();
      size[0]++;
      if (o.getClass().isArray()) {
        int n = Array.getLength(o);
        size[1] += n;
        for (int i = 0; i < n && !o.getClass().getComponentType().isPrimitive(); i++) {
          reach(Array.get(o, i), seen, open);
        }
      } else if (o.getClass().getName().startsWith("LikenessPound")) {
        size[1] += fieldsOf(o, seen, open);
      }
    }
    return size;
  }

  private static int fieldsOf(Object o, Set<Object> seen, Deque<Object> open) {
    int n = 0;
    for (Field f : o.getClass().getDeclaredFields()) {
      if (Modifier.isStatic(f.getModifiers())) {
        continue;
      }
      n++;
      f.setAccessible(true);
      try {
        if (!f.getType().isPrimitive()) {
          reach(f.get(o), seen, open);
        }
      } catch (IllegalAccessException e) {
        throw new IllegalStateException(f.getName());
      }
    }
    return n;
  }

  private static void reach(Object o, Set<Object> seen, Deque<Object> open) {
    if (o != null && seen.add(o)) {
      open.add(o);
    }
  }
}
