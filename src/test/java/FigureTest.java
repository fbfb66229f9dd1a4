/** Promises 1 to 9: a new object, and the figure. */
public final class FigureTest {
  private static final int UNKNOWN = -900000001, OUTSIDE = -900000002, STATE = -900000003, FULL = -900000004, NONE = -900000009;
  private static final Check check = new Check("FigureTest");

  public static void main(String[] args) {
    constants();
    promise1();
    promise2();
    promise3();
    promise4();
    promise5();
    promise6();
    promise7();
    promise8();
    promise9();
    check.end();
  }

  private static GreaterBodies of(int... xy) {
    GreaterBodies g = new GreaterBodies();
    for (int i = 0; i + 1 < xy.length; i += 2) {
      check.due("point(" + xy[i] + ", " + xy[i + 1] + ")", g.point(xy[i], xy[i + 1]), i / 2);
    }
    return g;
  }

  private static long[] ring(GreaterBodies g) {
    long[] told = new long[Math.max(0, g.corners()) * 2];
    for (int i = 0; i < told.length / 2; i++) {
      told[2 * i] = g.corner(i, false);
      told[2 * i + 1] = g.corner(i, true);
    }
    return told;
  }

  private static void constants() {
    check.due("UNKNOWN", GreaterBodies.UNKNOWN, UNKNOWN);
    check.due("OUTSIDE", GreaterBodies.OUTSIDE, OUTSIDE);
    check.due("STATE", GreaterBodies.STATE, STATE);
    check.due("FULL", GreaterBodies.FULL, FULL);
    check.due("NONE", GreaterBodies.NONE, NONE);
  }

  private static void promise1() {
    GreaterBodies g = new GreaterBodies();
    check.due("1: points", g.count(0), 0);
    check.due("1: walls", g.count(1), 0);
    check.due("1: walls on", g.count(2), 0);
    check.due("1: r", g.count(3), 1);
    check.due("1: scale", g.count(4), 1);
    check.due("1: corners", g.corners(), 0);
    check.due("1: vertices", g.vertices(), 0);
    GreaterBodies other = new GreaterBodies();
    other.point(1, 1);
    other.factors(3, 7);
    check.due("1: objects are apart", g.count(0) + g.count(3), 1);
  }

  private static void promise2() {
    GreaterBodies g = new GreaterBodies();
    int[][] out = {{51, 0}, {-51, 0}, {0, 51}, {0, -51}, {Integer.MAX_VALUE, 0}, {0, Integer.MIN_VALUE}, {Integer.MIN_VALUE, 99}};
    for (int[] o : out) {
      check.due("2: point(" + o[0] + ", " + o[1] + ")", g.point(o[0], o[1]), OUTSIDE);
    }
    check.due("2: refused, no point", g.count(0), 0);
    check.due("2: farthest", g.point(50, -50), 0);
    check.due("2: farthest", g.point(-50, 50), 1);
    check.due("2: the same place twice", g.point(-50, 50), 2);
    for (int i = 3; i < 12; i++) {
      check.due("2: point", g.point(i, i), i);
    }
    check.due("2: the thirteenth", g.point(0, 0), FULL);
    check.due("2: outside comes before full", g.point(0, 51), OUTSIDE);
    check.due("2: twelve", g.count(0), 12);
  }

  private static void promise3() {
    GreaterBodies g = of(0, 0, 4, 0, 0, 4);
    check.due("3: move", g.move(1, 8, 0), 1);
    check.row("3: moved", ring(g), 0, 0, 8, 0, 0, 4);
    check.due("3: no such", g.move(3, 0, 0), UNKNOWN);
    check.due("3: below 0", g.move(-1, 0, 0), UNKNOWN);
    check.due("3: least", g.move(Integer.MIN_VALUE, 0, 0), UNKNOWN);
    check.due("3: unknown comes first", g.move(3, 51, 0), UNKNOWN);
    check.due("3: x", g.move(0, 51, 0), OUTSIDE);
    check.due("3: x", g.move(0, -51, 0), OUTSIDE);
    check.due("3: y", g.move(0, 0, 51), OUTSIDE);
    check.due("3: y", g.move(0, 0, -51), OUTSIDE);
    check.row("3: refused, not moved", ring(g), 0, 0, 8, 0, 0, 4);
    check.due("3: onto another", g.move(1, 0, 4), 1);
    check.due("3: two places are left", g.corners(), 2);
    check.due("3: three points all the same", g.count(0), 3);
    check.due("3: farthest", g.move(2, 50, -50), 1);
    check.row("3: and that is a corner", ring(g), 0, 0, 50, -50, 0, 4);
  }

  private static void promise4() {
    GreaterBodies g = new GreaterBodies();
    check.due("4: of none", g.clear(), 0);
    g = of(0, 0, 4, 0, 0, 4, 1, 1);
    g.wall(1, 0, 0, 1);
    g.factors(2, 5);
    g.entry(true, 0, 0, 6);
    check.due("4: of four", g.clear(), 4);
    check.due("4: none is left", g.count(0), 0);
    check.due("4: no corner", g.corners(), 0);
    check.due("4: walls stay", g.count(1), 1);
    check.due("4: r stays", g.count(3), 2);
    check.due("4: entries stay", g.entry(true, 0, 0, 0), 6);
    check.due("4: numbers begin anew", g.point(7, 7), 0);
    check.due("4: again", g.clear(), 1);
  }

  private static void promise5() {
    check.due("5: none", of().corners(), 0);
    check.due("5: one", of(3, 3).corners(), 1);
    check.due("5: one place twice", of(3, 3, 3, 3).corners(), 1);
    check.due("5: two", of(3, 3, -1, 2).corners(), 2);
    check.due("5: on a line", of(0, 0, 2, 1, 4, 2, 6, 3, 2, 1).corners(), 2);
    check.due("5: upright line", of(1, 5, 1, -5, 1, 0, 1, 4).corners(), 2);
    check.due("5: three", of(0, 0, 1, 0, 0, 1).corners(), 3);
    check.due("5: places on the rim are none", of(0, 0, 2, 0, 4, 0, 4, 2, 4, 4, 2, 4, 0, 4, 0, 2).corners(), 4);
    check.due("5: places within are none", of(0, 0, 5, 0, 5, 5, 0, 5, 2, 3, 1, 1).corners(), 4);
    check.due("5: corners twice", of(0, 0, 5, 0, 0, 5, 0, 0, 5, 0, 0, 5).corners(), 3);
    check.due("5: twelve", of(-50, -1, -49, -5, -40, -20, -20, -35, 0, -40, 20, -36, 40, -22, 48, -8, 50, 0, 30, 40, 0, 50, -30, 45).corners(), 12);
  }

  private static void promise6() {
    check.row("6: round against the clock from the least x", ring(of(4, 6, 0, 0, 6, 3, -2, 3, 4, 0, 0, 6)), -2, 3, 0, 0, 4, 0, 6, 3, 4, 6, 0, 6);
    check.row("6: of like x the least y", ring(of(0, 7, 9, 7, 9, -7, 0, -7, 0, 0)), 0, -7, 9, -7, 9, 7, 0, 7);
    check.row("6: two of a line, the least x", ring(of(6, 3, 2, 1, 0, 0)), 0, 0, 6, 3);
    check.row("6: two of a falling line", ring(of(6, -3, 2, -1, 0, 0, 4, -2)), 0, 0, 6, -3);
    check.row("6: two of an upright line, the least y", ring(of(1, 5, 1, -5, 1, 0)), 1, -5, 1, 5);
    check.row("6: one", ring(of(2, -9, 2, -9)), 2, -9);
    GreaterBodies g = of(0, 0, 4, 0, 0, 4);
    check.due("6: no such", g.corner(3, false), UNKNOWN);
    check.due("6: below 0", g.corner(-1, true), UNKNOWN);
    check.due("6: greatest", g.corner(Integer.MAX_VALUE, true), UNKNOWN);
    check.due("6: of nothing", of().corner(0, false), UNKNOWN);
    check.due("6: farthest", of(-50, 50).corner(0, true), 50);
  }

  private static long[] walls(GreaterBodies g) {
    long[] told = new long[g.corners() * 3];
    for (int i = 0; i < told.length; i++) {
      told[i] = g.wallOf(i / 3, i % 3);
    }
    return told;
  }

  private static void promise7() {
    check.row("7: a square", walls(of(-3, -2, 3, -2, 3, 2, -3, 2)), 0, -1, 2, 1, 0, 3, 0, 1, 2, -1, 0, 3);
    check.row("7: in least numbers", walls(of(0, 0, 6, 4, -3, 9)), -3, -1, 0, 2, -3, 0, 5, 9, 66);
    check.row("7: far apart", walls(of(-50, -50, 50, -49, 49, 50)), 1, -100, 4950, 99, 1, 4901, -100, 99, 50);
    GreaterBodies g = of(0, 0, 4, 0, 0, 4);
    check.due("7: no such edge", g.wallOf(3, 0), UNKNOWN);
    check.due("7: below 0", g.wallOf(-1, 0), UNKNOWN);
    check.due("7: unknown comes first", g.wallOf(3, 3), UNKNOWN);
    check.due("7: what", g.wallOf(0, 3), OUTSIDE);
    check.due("7: what below 0", g.wallOf(0, -1), OUTSIDE);
    g.move(2, 2, 0);
    check.due("7: flat", g.wallOf(0, 0), STATE);
    check.due("7: flat comes before what", g.wallOf(1, 7), STATE);
    check.due("7: and after no such edge", g.wallOf(2, 0), UNKNOWN);
    check.due("7: one corner, flat", of(1, 1).wallOf(0, 0), STATE);
    check.due("7: one corner, no such", of(1, 1).wallOf(1, 0), UNKNOWN);
    check.due("7: none", of().wallOf(0, 0), UNKNOWN);
  }

  private static long[] slacks(GreaterBodies g) {
    int n = g.corners();
    long[] told = new long[n * n];
    for (int i = 0; i < told.length; i++) {
      told[i] = g.slack(i / n, i % n);
    }
    return told;
  }

  private static void promise8() {
    check.row("8: a square", slacks(of(-3, -2, 3, -2, 3, 2, -3, 2)), 0, 0, 4, 4, 6, 0, 0, 6, 4, 4, 0, 0, 0, 6, 6, 0);
    check.row("8: in least numbers", slacks(of(0, 0, 6, 4, -3, 9)), 0, 0, 22, 33, 0, 0, 0, 66, 0);
    GreaterBodies g = of(0, 0, 4, 0, 0, 4);
    check.due("8: no such edge", g.slack(3, 0), UNKNOWN);
    check.due("8: no such corner", g.slack(0, 3), UNKNOWN);
    check.due("8: edge below 0", g.slack(-1, 0), UNKNOWN);
    check.due("8: corner below 0", g.slack(0, -1), UNKNOWN);
    g.move(2, 2, 0);
    check.due("8: flat", g.slack(1, 1), STATE);
    check.due("8: flat, no such corner", g.slack(1, 2), UNKNOWN);
    check.due("8: flat, no such edge", g.slack(2, 1), UNKNOWN);
  }

  private static void promise9() {
    check.due("9: nothing", of().area(), 0);
    check.due("9: one", of(40, 40).area(), 0);
    check.due("9: a line", of(10, 20, 30, 40, 20, 30).area(), 0);
    check.due("9: a triangle", of(0, 0, 1, 0, 0, 1).area(), 1);
    check.due("9: in least numbers", of(0, 0, 6, 4, -3, 9).area(), 66);
    check.due("9: far from 0, 0, points within", of(41, 42, 44, 42, 44, 46, 41, 46, 42, 43).area(), 24);
    check.due("9: the greatest", of(-50, -50, 50, -50, 50, 50, -50, 50).area(), 20000);
  }
}
