/** Promises 20 to 29: the body by walls, its corners, its edges, idle walls. */
public final class BodyTest {
  private static final int UNKNOWN = -900000001, OUTSIDE = -900000002, STATE = -900000003, FULL = -900000004;
  private static final Check check = new Check("BodyTest");

  public static void main(String[] args) {
    promise20();
    promise21();
    promise22();
    promise23();
    promise24();
    promise25();
    promise26();
    promise27();
    promise28();
    promise29();
    check.end();
  }

  private static GreaterBodies of(int... abcd) {
    GreaterBodies g = new GreaterBodies();
    for (int i = 0; i + 3 < abcd.length; i += 4) {
      check.due("wall", g.wall(abcd[i], abcd[i + 1], abcd[i + 2], abcd[i + 3]), i / 4);
    }
    return g;
  }

  /** x, y, z of all vertices, each above and below. */
  private static long[] places(GreaterBodies g) {
    long[] told = new long[g.vertices() * 6];
    for (int i = 0; i < told.length; i++) {
      told[i] = g.vertex(i / 6, i % 6 / 2, i % 2 == 0);
    }
    return told;
  }

  private static long[] whole(GreaterBodies g) {
    long[] told = new long[g.vertices() * 3];
    for (int i = 0; i < told.length; i++) {
      told[i] = g.vertex(i / 3, i % 3, true);
      check.due("a whole number", g.vertex(i / 3, i % 3, false), 1);
    }
    return told;
  }

  private static long[] tights(GreaterBodies g) {
    long[] told = new long[g.vertices()];
    for (int i = 0; i < told.length; i++) {
      told[i] = g.tight(i);
    }
    return told;
  }

  private static void promise20() {
    GreaterBodies g = new GreaterBodies();
    int[][] out = {{0, 0, 0, 1}, {0, 0, 0, 0}, {10, 0, 0, 1}, {-10, 0, 0, 1}, {0, 10, 0, 1}, {0, -10, 0, 1}, {0, 0, 10, 1}, {0, 0, -10, 1}, {1, 0, 0, 100}, {1, 0, 0, -100}, {Integer.MIN_VALUE, 1, 1, 1}, {1, 1, 1, Integer.MAX_VALUE}};
    for (int[] o : out) {
      check.due("20: wall(" + o[0] + ", " + o[1] + ", " + o[2] + ", " + o[3] + ")", g.wall(o[0], o[1], o[2], o[3]), OUTSIDE);
    }
    check.due("20: refused, no wall", g.count(1), 0);
    check.due("20: the steepest", g.wall(9, -9, 9, 99), 0);
    check.due("20: and back", g.wall(-9, 9, -9, -99), 1);
    check.due("20: the same again", g.wall(9, -9, 9, 99), 2);
    check.due("20: it is on", g.about(0, 4), 1);
    for (int i = 3; i < 10; i++) {
      check.due("20: wall", g.wall(0, 0, 1, i), i);
    }
    check.due("20: the eleventh", g.wall(1, 0, 0, 0), FULL);
    check.due("20: outside comes before full", g.wall(0, 0, 0, 0), OUTSIDE);
    check.due("20: ten", g.count(1), 10);
    g.on(4, false);
    check.due("20: off ones count", g.wall(1, 0, 0, 0), FULL);
  }

  private static void promise21() {
    GreaterBodies g = Shapes.cube();
    check.due("21: what it was", g.shift(0, 3), 1);
    check.due("21: what it was", g.shift(0, -99), 3);
    check.due("21: what it was", g.shift(0, 99), -99);
    check.due("21: what it was", g.shift(0, 3), 99);
    check.due("21: the body is another", g.mostOf(1, 0, 0, true), 3);
    check.due("21: no such", g.shift(6, 0), UNKNOWN);
    check.due("21: below 0", g.shift(-1, 0), UNKNOWN);
    check.due("21: unknown comes first", g.shift(6, 100), UNKNOWN);
    check.due("21: above", g.shift(0, 100), OUTSIDE);
    check.due("21: below", g.shift(0, -100), OUTSIDE);
    check.due("21: refused changes nothing", g.about(0, 3), 3);
    g.on(1, false);
    check.due("21: of a wall that is off", g.shift(1, 5), 1);
    check.due("21: it stays off", g.about(1, 4), 0);
    g.on(1, true);
    check.due("21: and counts when on", g.mostOf(-1, 0, 0, true), 5);
  }

  private static void promise22() {
    GreaterBodies g = Shapes.cube();
    check.due("22: was on", g.on(5, false), 1);
    check.due("22: was off", g.on(5, false), 0);
    check.due("22: off, without end", g.sound(), 0);
    check.due("22: was off", g.on(5, true), 0);
    check.due("22: was on", g.on(5, true), 1);
    check.due("22: on again", g.sound(), 1);
    check.due("22: no such", g.on(6, true), UNKNOWN);
    check.due("22: below 0", g.on(-1, false), UNKNOWN);
    check.due("22: greatest", g.on(Integer.MAX_VALUE, false), UNKNOWN);
    check.due("22: all are on", g.count(2), 6);
  }

  private static void promise23() {
    GreaterBodies g = of(3, -4, 5, -6, 0, 0, 9, 99);
    check.due("23: a", g.about(0, 0), 3);
    check.due("23: b", g.about(0, 1), -4);
    check.due("23: c", g.about(0, 2), 5);
    check.due("23: d", g.about(0, 3), -6);
    check.due("23: on", g.about(0, 4), 1);
    check.due("23: as told, not in least numbers", g.about(1, 2), 9);
    g.on(0, false);
    check.due("23: off", g.about(0, 4), 0);
    check.due("23: a of what is off", g.about(0, 0), 3);
    check.due("23: the other is on", g.about(1, 4), 1);
    check.due("23: no such", g.about(2, 0), UNKNOWN);
    check.due("23: below 0", g.about(-1, 0), UNKNOWN);
    check.due("23: unknown comes first", g.about(2, 5), UNKNOWN);
    check.due("23: what", g.about(0, 5), OUTSIDE);
    check.due("23: what below 0", g.about(0, -1), OUTSIDE);
  }

  private static void promise24() {
    GreaterBodies g = new GreaterBodies();
    check.due("24: no walls", g.sound(), 0);
    g = Shapes.cube();
    check.due("24: a cube", g.sound(), 1);
    for (int i = 0; i < 6; i++) {
      g.on(i, false);
      check.due("24: without wall " + i, g.sound(), 0);
      g.on(i, true);
    }
    g.shift(0, -2);
    check.due("24: nothing there, no vertex", g.sound(), 0);
    g.shift(0, -1);
    check.due("24: flat", g.sound(), 1);
    g.shift(2, -1);
    g.shift(4, -1);
    check.due("24: one place", g.sound(), 1);
    check.due("24: three walls, a vertex, without end", of(-1, 0, 0, 0, 0, -1, 0, 0, 0, 0, -1, 0).sound(), 0);
    check.due("24: four that close", of(-1, 0, 0, 0, 0, -1, 0, 0, 0, 0, -1, 0, 1, 1, 1, 0).sound(), 1);
    check.due("24: a cone, steps between its rims", of(1, 0, 1, 0, -1, 0, 1, 0, 0, 1, 1, 0, 0, -1, 1, 0).sound(), 0);
    check.due("24: a cone, closed", of(1, 0, 1, 0, -1, 0, 1, 0, 0, 1, 1, 0, 0, -1, 1, 0, 0, 0, -1, 5).sound(), 1);
    check.due("24: one step alone without end", of(1, 0, 0, 1, -1, 0, 0, 1, 0, 1, 0, 1, 0, -1, 0, 1, 0, 0, 1, 1).sound(), 0);
    check.due("24: two slanted walls close it", of(1, 0, 0, 1, -1, 0, 0, 1, 0, 1, 0, 1, 0, -1, 0, 1, 0, 0, 1, 1, 5, 5, -1, 0).sound(), 1);
    check.due("24: a pillar without a vertex", of(1, 0, 0, 1, -1, 0, 0, 1, 0, 1, 0, 1, 0, -1, 0, 1).sound(), 0);
    check.due("24: flat, and without end in one step", of(0, 0, 1, 0, 0, 0, -1, 0, 1, 0, 0, 5, -1, 0, 0, 5, 0, 1, 0, 5).sound(), 0);
    inEveryOrder("one step, flat", 0, new int[][] {{0, 0, 1, 0}, {0, 0, -1, 0}, {1, 0, 0, 5}, {-1, 0, 0, 5}, {0, 1, 0, 5}});
    inEveryOrder("one step, the other way", 0, new int[][] {{0, 0, 1, 0}, {0, 0, -1, 0}, {1, 0, 0, 5}, {-1, 0, 0, 5}, {0, -1, 0, 5}});
    inEveryOrder("one step, a line", 0, new int[][] {{0, 0, 1, 0}, {0, 0, -1, 0}, {1, 0, 0, 0}, {-1, 0, 0, 0}, {0, 1, 0, 5}});
    inEveryOrder("one step of a tip aslant", 0, new int[][] {{1, 2, 3, 6}, {-2, 1, -1, 4}, {1, -3, -2, 5}, {1, 1, 0, 3}});
    inEveryOrder("a tip", 0, new int[][] {{1, 2, 3, 6}, {-2, 1, -1, 4}, {1, -3, -1, 5}});
    inEveryOrder("two tips", 1, new int[][] {{1, 2, 3, 6}, {-2, 1, -1, 4}, {1, -3, -1, 5}, {1, 2, -2, 7}, {-1, -1, 0, 6}});
    inEveryOrder("flat, closed", 1, new int[][] {{0, 0, 1, 0}, {0, 0, -1, 0}, {1, 1, 0, 5}, {-1, 1, 0, 5}, {0, -1, 0, 5}});
  }

  private static void inEveryOrder(String body, int due, int[][] walls) {
    inEveryOrder(body, due, walls, 0);
  }

  private static void inEveryOrder(String body, int due, int[][] walls, int set) {
    if (set < walls.length) {
      for (int i = set; i < walls.length; i++) {
        swap(walls, i, set);
        inEveryOrder(body, due, walls, set + 1);
        swap(walls, i, set);
      }
      return;
    }
    GreaterBodies g = new GreaterBodies();
    for (int[] w : walls) {
      g.wall(w[0], w[1], w[2], w[3]);
    }
    check.due("24: " + body + " " + java.util.Arrays.deepToString(walls), g.sound(), due);
    check.holds("24: it has a vertex", g.vertices() > 0);
  }

  private static void swap(int[][] walls, int i, int j) {
    int[] wall = walls[i];
    walls[i] = walls[j];
    walls[j] = wall;
  }

  private static void promise25() {
    check.due("25: no walls", new GreaterBodies().vertices(), 0);
    GreaterBodies g = Shapes.cube();
    check.due("25: a cube", g.vertices(), 8);
    g.on(0, false);
    check.due("25: not sound, four", g.vertices(), 4);
    g.on(2, false);
    check.due("25: not sound, two", g.vertices(), 2);
    g.on(4, false);
    check.due("25: not sound, one", g.vertices(), 1);
    g.on(5, false);
    check.due("25: none", g.vertices(), 0);
    g = Shapes.cube();
    g.wall(1, 1, 1, 3);
    check.due("25: a wall that touches a corner", g.vertices(), 8);
    g.shift(6, 2);
    check.due("25: a wall that cuts it off", g.vertices(), 10);
    g.shift(6, 1);
    check.due("25: cut through three corners beside it", g.vertices(), 7);
    g.shift(6, -3);
    check.due("25: one corner is left", g.vertices(), 1);
    g.shift(6, -4);
    check.due("25: nothing is left", g.vertices(), 0);
    GreaterBodies eight = new GreaterBodies();
    for (int i = 0; i < 8; i++) {
      eight.wall((i & 1) == 0 ? 1 : -1, (i & 2) == 0 ? 1 : -1, (i & 4) == 0 ? 1 : -1, 2);
    }
    check.due("25: each place once", eight.vertices(), 6);
    GreaterBodies many = of(4, 0, 9, 36, -4, 0, 9, 36, 0, 4, 9, 36, 0, -4, 9, 36, 3, 3, 9, 36, 3, -3, 9, 36, -3, 3, 9, 36, -3, -3, 9, 36, 0, 0, -1, 0);
    check.due("25: eight rims to a tip", many.vertices(), 9);
  }

  private static void promise26() {
    check.row("26: by x, then y, then z", whole(Shapes.cube()),
        -1, -1, -1, -1, -1, 1, -1, 1, -1, -1, 1, 1, 1, -1, -1, 1, -1, 1, 1, 1, -1, 1, 1, 1);
    GreaterBodies g = of(0, 0, -3, 2, 6, 0, 0, 3, -9, 0, 0, 6, 0, 4, 0, 6, 0, -4, 0, -6, 0, 0, 9, -6);
    check.row("26: least terms, and a place of one", places(g), -2, 3, 3, 2, -2, 3, 1, 2, 3, 2, -2, 3);
    check.row("26: fractions by their size", places(of(-1, 0, 0, 0, 0, -1, 0, 0, 0, 0, -1, 0, 2, 3, 5, 7)),
        0, 1, 0, 1, 0, 1, 0, 1, 0, 1, 7, 5, 0, 1, 7, 3, 0, 1, 7, 2, 0, 1, 0, 1);
    GreaterBodies cube = Shapes.cube();
    check.due("26: no such", cube.vertex(8, 0, true), UNKNOWN);
    check.due("26: below 0", cube.vertex(-1, 0, true), UNKNOWN);
    check.due("26: unknown comes first", cube.vertex(8, 3, true), UNKNOWN);
    check.due("26: what", cube.vertex(0, 3, false), OUTSIDE);
    check.due("26: what below 0", cube.vertex(0, -1, false), OUTSIDE);
    cube.on(0, false);
    check.row("26: not sound", whole(cube), -1, -1, -1, -1, -1, 1, -1, 1, -1, -1, 1, 1);
    check.due("26: not sound, no such", cube.vertex(4, 0, true), UNKNOWN);
    GreaterBodies thirds = of(3, 0, 0, -1, -2, 0, 0, 1, 0, 1, 0, 0, 0, -1, 0, 0, 0, 0, 1, 0, 0, 0, -1, 0);
    check.row("26: -1/2 is before -1/3", places(thirds), -1, 2, 0, 1, 0, 1, -1, 3, 0, 1, 0, 1);
    large();
  }

  /** Walls as steep and as far as they come. */
  private static void large() {
    GreaterBodies g = of(-9, 9, 9, 99, 9, -9, 9, 99, 9, 9, -9, 99);
    check.row("26: far", whole(g), 11, 11, 11);
    g = of(-9, 9, 8, 99, 9, -8, 9, 99, 8, 9, -9, 99);
    check.row("26: far, fractions", places(g), 153, 14, 171, 14, 153, 14);
  }

  private static void promise27() {
    check.row("27: a cube", tights(Shapes.cube()), 42, 26, 38, 22, 41, 25, 37, 21);
    GreaterBodies g = Shapes.cube();
    g.wall(1, 1, 1, 3);
    g.wall(2, 0, 0, 2);
    check.row("27: touching ones too", tights(g), 42, 26, 38, 22, 169, 153, 165, 213);
    g.on(6, false);
    g.on(0, false);
    check.row("27: off ones are none", tights(g), 42, 26, 38, 22, 168, 152, 164, 148);
    check.due("27: no such", g.tight(8), UNKNOWN);
    check.due("27: below 0", g.tight(-1), UNKNOWN);
    g.on(7, false);
    check.row("27: not sound", tights(g), 42, 26, 38, 22);
    check.due("27: not sound, no such", g.tight(4), UNKNOWN);
  }

  private static void promise28() {
    GreaterBodies g = new GreaterBodies();
    check.due("28: no walls", g.rims(), STATE);
    g = Shapes.cube();
    check.due("28: a cube", g.rims(), 12);
    g.wall(3, 0, 0, 3);
    check.due("28: walls that are multiples", g.rims(), 12);
    g.wall(1, 1, 0, 2);
    check.due("28: a wall along a rim", g.rims(), 12);
    g.wall(1, 1, 1, 3);
    check.due("28: a wall at a corner", g.rims(), 12);
    g.shift(8, 2);
    check.due("28: the corner cut off", g.rims(), 15);
    g.on(1, false);
    check.due("28: not sound", g.rims(), STATE);
    check.due("28: a tip of three", of(-1, 0, 0, 0, 0, -1, 0, 0, 0, 0, -1, 0, 2, 3, 5, 7).rims(), 6);
    GreaterBodies eight = new GreaterBodies();
    for (int i = 0; i < 8; i++) {
      eight.wall((i & 1) == 0 ? 1 : -1, (i & 2) == 0 ? 1 : -1, (i & 4) == 0 ? 1 : -1, 2);
    }
    check.due("28: four walls at each of six", eight.rims(), 12);
    check.due("28: flat, a square", of(0, 0, 1, 2, 0, 0, -1, -2, 1, 0, 0, 1, -1, 0, 0, 1, 0, 1, 0, 1, 0, -1, 0, 1).rims(), 4);
    check.due("28: a line", of(0, 0, 1, 2, 0, 0, -1, -2, 1, 0, 0, 1, -1, 0, 0, -1, 0, 1, 0, 1, 0, -1, 0, 1).rims(), 1);
    check.due("28: a place", of(0, 0, 1, 2, 0, 0, -1, -2, 1, 0, 0, 1, -1, 0, 0, -1, 0, 1, 0, 1, 0, -1, 0, -1).rims(), 0);
  }

  private static long[] idles(GreaterBodies g) {
    long[] told = new long[g.count(1)];
    for (int i = 0; i < told.length; i++) {
      told[i] = g.idle(i);
    }
    return told;
  }

  private static void promise29() {
    GreaterBodies g = new GreaterBodies();
    check.due("29: no such", g.idle(0), UNKNOWN);
    g = Shapes.cube();
    check.row("29: a cube", idles(g), 0, 0, 0, 0, 0, 0);
    g.wall(1, 1, 1, 4);
    g.wall(1, 1, 1, 3);
    g.wall(1, 1, 1, 2);
    check.row("29: beyond, touching, cutting", idles(g), 0, 0, 0, 0, 0, 0, 1, 1, 0);
    g.shift(8, 4);
    check.row("29: twice beyond", idles(g), 0, 0, 0, 0, 0, 0, 1, 1, 1);
    g.on(6, false);
    check.due("29: off", g.idle(6), 0);
    check.due("29: no such", g.idle(9), UNKNOWN);
    check.due("29: below 0", g.idle(-1), UNKNOWN);
    g.wall(2, 0, 0, 2);
    check.row("29: either of two of one plane", idles(g), 1, 0, 0, 0, 0, 0, 0, 1, 1, 1);
    g.on(0, false);
    check.row("29: not the last of them", idles(g), 0, 0, 0, 0, 0, 0, 0, 1, 1, 0);
    g.on(1, false);
    check.due("29: not sound", g.idle(2), STATE);
    check.due("29: not sound, off", g.idle(1), STATE);
    check.due("29: not sound, no such", g.idle(10), UNKNOWN);
    GreaterBodies tip = of(-1, 0, 0, 0, 0, -1, 0, 0, 0, 0, -1, 0, 1, 1, 1, 0);
    check.row("29: a place of four walls", idles(tip), 0, 0, 0, 0);
    tip.wall(1, 0, 0, 0);
    check.row("29: a place of five walls", idles(tip), 0, 0, 0, 0, 1);
    tip.wall(0, 1, 0, 0);
    tip.wall(0, 0, 1, 0);
    check.row("29: a place of seven walls", idles(tip), 0, 0, 0, 1, 1, 1, 1);
    GreaterBodies slab = of(0, 0, 1, 0, 0, 0, -1, 0, 1, 0, 0, 1, -1, 0, 0, 1, 0, 1, 0, 1, 0, -1, 0, 1);
    check.row("29: flat, the vertices stay but it is without end", idles(slab), 0, 0, 0, 0, 0, 0);
  }
}
