/** Promises 34 and 35: years by draws, worked out here step by step. */
public final class DrawnTest {
  private static int x;

  private static int draw(int n) {
    x = x * 1103515245 + 12345;
    return (x >>> 8) % n;
  }

  public static void main(String[] args) {
    oneYear();
    withoutDeeds();
    edges();
    odds();
    Checks.finish("DrawnTest");
  }

  /** A year of one man tells which act each first draw stands for. */
  private static void oneYear() {
    int[] seen = new int[6];
    for (int seed = -40; seed < 60; seed++) {
      LikenessPound p = Checks.with("man a 59;man b 20;deed p good 4;deed q crime 3;deed r good 1;did a p 9;did a q 1;"
          + "did a r 1;kin a b;");
      x = seed;
      int[] did = {9, 1, 1, 0, 0, 0};
      boolean[] sat = new boolean[2];
      for (int m = 0; m < 2; m++) {
        int kind = draw(6);
        seen[kind]++;
        if (kind < 2) {
          int d = draw(3);
          did[m * 3 + d] = Math.min(9, did[m * 3 + d] + 1);
        } else if (kind == 2) {
          draw(2);
          draw(3);
        } else if (kind == 3) {
          sat[m] = true;
        }
      }
      Checks.due("drawn", p.drawn(1, seed), 1);
      for (int i = 0; i < 6; i++) {
        Checks.due("did by seed " + seed, p.did(i / 3, i % 3), did[i]);
      }
      for (int m = 0; m < 2; m++) {
        Checks.due("sat by seed " + seed, p.man(m, 7), sat[m] ? 1 : 0);
        Checks.due("the year he sat by seed " + seed, p.kept(m, 2), sat[m] ? 0 : -1);
      }
      Checks.due("YEAR", p.now(0), 1);
      Checks.due("age", p.man(0, 0), 60);
      Checks.due("who lends", p.now(4), 0);
    }
    for (int kind = 0; kind < 6; kind++) {
      Checks.due("draws of " + kind + " came", seen[kind] > 0, true);
    }
    lentWhenSitting();
  }

  /** What is lent ahead of a sitting of the same year is seen in the likeness that is kept. */
  private static void lentWhenSitting() {
    boolean came = false;
    for (int seed = 0; seed < 400; seed++) {
      x = seed;
      boolean lent = draw(6) == 2 && draw(2) == 1 && draw(1) == 0 && draw(6) == 3;
      if (lent) {
        came = true;
        LikenessPound p = Checks.with("man a 5;man b 6;deed p good 4;did a p 1;kin a b;");
        p.drawn(1, seed);
        Checks.due("kept white by seed " + seed, p.kept(1, 0), 4);
      }
    }
    Checks.due("such a year came", came, true);
  }

  private static void withoutDeeds() {
    for (int seed = 0; seed < 50; seed++) {
      LikenessPound p = Checks.with("man a 5;man b 6;man c 7;kin a b;");
      x = seed;
      boolean[] sat = new boolean[3];
      for (int i = 0; i < 6; i++) {
        int kind = draw(6);
        if (kind == 2) {
          draw(3);
        }
        sat[i % 3] |= kind == 3;
      }
      Checks.due("drawn", p.drawn(2, seed), 2);
      for (int m = 0; m < 3; m++) {
        Checks.due("sat by seed " + seed, p.man(m, 7), sat[m] ? 1 : 0);
      }
    }
  }

  private static void edges() {
    LikenessPound p = new LikenessPound();
    Checks.due("no men", p.drawn(1, 1), -1);
    Checks.due("no men", p.undo(), -1);
    Checks.colony(p, "man a 5;deed q good 1;");
    for (int n : new int[] {0, -1, 31, Integer.MAX_VALUE}) {
      Checks.due("drawn " + n, p.drawn(n, 1), -1);
    }
    for (int i = 0; i < 6; i++) {
      Checks.due("drawn 30", p.drawn(30, i), 30);
    }
    p.years(10);
    Checks.due("ten are left", p.drawn(30, 7), 10);
    int did = p.did(0, 0);
    Checks.due("none is left", p.drawn(30, 8), 0);
    Checks.due("nothing is done then", p.did(0, 0), did);
    Checks.due("the latest that was", p.undo(), 7);
    Checks.due("YEAR", p.now(0), 190);
  }

  private static void odds() {
    LikenessPound p = Checks.with("man a 5;man b 6;deed q good 5;deed r crime 4;kin a b;plate 30;faint 12;");
    for (int seed : new int[] {0, 77, -3, Integer.MAX_VALUE - 4}) {
      for (int m = 0; m < 2; m++) {
        int due = 0;
        for (int i = 0; i < 30; i++) {
          LikenessPound one = Checks.with("man a 5;man b 6;deed q good 5;deed r crime 4;kin a b;plate 30;faint 12;");
          one.drawn(10, seed + i);
          due += one.man(m, 3) == 1 ? 1 : 0;
        }
        Checks.due("odds(" + m + ", 30, " + seed + ")", p.odds(m, 30, seed), due);
      }
    }
    Checks.due("all stays", p.now(0), 0);
    Checks.due("all stays", p.deed(0, 2), 0);
    Checks.due("nothing to undo", p.undo(), -1);
    Checks.due("no man", p.odds(2, 1, 1), -1);
    Checks.due("no man", p.odds(-1, 1, 1), -1);
    Checks.due("no seeds", p.odds(0, 0, 1), -1);
    Checks.due("31 seeds", p.odds(0, 31, 1), -1);
    LikenessPound over = Checks.with("man a 5;deed q good 12;did a q 1;");
    for (int i = 0; i < 7; i++) {
      over.years(30);
    }
    Checks.due("no years are left", over.odds(0, 30, 1), 30);
  }
}
