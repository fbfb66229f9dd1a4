/** Promises 38 to 41: what is greatest on both, and the counts. */
public final class ProgramsTest {
  private static final int OUTSIDE = -900000002, STATE = -900000003;
  private static final Check check = new Check("ProgramsTest");

  public static void main(String[] args) {
    promise38();
    promise39();
    promise40();
    promise41();
    check.end();
  }

  private static void promise38() {
    GreaterBodies g = new GreaterBodies();
    check.due("38: no points", g.most(1, 1), STATE);
    check.due("38: p above", g.most(100, 0), OUTSIDE);
    check.due("38: p below", g.most(-100, 0), OUTSIDE);
    check.due("38: q above", g.most(0, 100), OUTSIDE);
    check.due("38: q below", g.most(0, -100), OUTSIDE);
    check.due("38: farthest out", g.most(Integer.MIN_VALUE, Integer.MAX_VALUE), OUTSIDE);
    g.point(-3, -4);
    check.due("38: below nought", g.most(1, 1), -7);
    check.due("38: the other way", g.most(-1, -1), 7);
    g.point(2, -9);
    check.due("38: of a line", g.most(1, 0), 2);
    check.due("38: of a line", g.most(0, 1), -4);
    g.point(50, 50);
    g.point(-50, -50);
    check.due("38: the greatest", g.most(99, 99), 9900);
    check.due("38: the greatest", g.most(-99, -99), 9900);
    check.due("38: nought", g.most(0, 0), 0);
    check.due("38: p and q are not one", g.most(2, -1), 50);
    g.clear();
    check.due("38: cleared", g.most(0, 0), STATE);
  }

  /** x, y, z of 0 and more, 2x + 3y + 5z of 7 at most. */
  private static GreaterBodies tip() {
    GreaterBodies g = new GreaterBodies();
    g.wall(-1, 0, 0, 0);
    g.wall(0, -1, 0, 0);
    g.wall(0, 0, -1, 0);
    check.due("without end", g.mostOf(-1, -1, -1, true), STATE);
    check.due("without end", g.at(-1, -1, -1), STATE);
    g.wall(2, 3, 5, 7);
    return g;
  }

  private static void outside(GreaterBodies g, String state) {
    int[][] out = {{100, 0, 0}, {-100, 0, 0}, {0, 100, 0}, {0, -100, 0}, {0, 0, 100}, {0, 0, -100}, {0, Integer.MIN_VALUE, 0}};
    for (int[] o : out) {
      String call = "(" + o[0] + ", " + o[1] + ", " + o[2] + ") of a body that is " + state;
      check.due("39: " + call, g.mostOf(o[0], o[1], o[2], true), OUTSIDE);
      check.due("39: " + call, g.mostOf(o[0], o[1], o[2], false), OUTSIDE);
      check.due("40: " + call, g.at(o[0], o[1], o[2]), OUTSIDE);
    }
  }

  private static void mostOf(GreaterBodies g, int p, int q, int s, long over, long below) {
    String call = "39: mostOf(" + p + ", " + q + ", " + s + ")";
    check.due(call + " above", g.mostOf(p, q, s, true), over);
    check.due(call + " below", g.mostOf(p, q, s, false), below);
  }

  private static void promise39() {
    GreaterBodies g = new GreaterBodies();
    outside(g, "not sound");
    check.due("39: not sound", g.mostOf(0, 0, 0, false), STATE);
    g = tip();
    outside(g, "sound");
    mostOf(g, 1, 0, 0, 7, 2);
    mostOf(g, 0, 1, 0, 7, 3);
    mostOf(g, 0, 0, 1, 7, 5);
    mostOf(g, -1, -1, -1, 0, 1);
    mostOf(g, 4, 6, 10, 14, 1);
    mostOf(g, 99, 99, 99, 693, 2);
    mostOf(g, -99, -99, 99, 693, 5);
    mostOf(g, 0, 0, 0, 0, 1);
    g.shift(3, -7);
    check.due("39: nothing there", g.mostOf(1, 1, 1, true), STATE);
    g.shift(3, 7);
    g.shift(0, -1);
    g.shift(1, -1);
    mostOf(g, -1, -1, -1, -2, 1);
    mostOf(g, -9, 0, -1, -9, 1);
    mostOf(g, -1, -1, 9, 8, 5);
    mostOf(g, -3, -1, 1, -18, 5);
  }

  private static void promise40() {
    GreaterBodies g = new GreaterBodies();
    check.due("40: not sound", g.at(0, 0, 0), STATE);
    g = tip();
    check.due("40: x", g.at(1, 0, 0), 3);
    check.due("40: y", g.at(0, 1, 0), 2);
    check.due("40: z", g.at(0, 0, 1), 1);
    check.due("40: down", g.at(-1, -1, -1), 0);
    check.due("40: everywhere, the first", g.at(0, 0, 0), 0);
    check.due("40: at three of one wall, the first", g.at(2, 3, 5), 1);
    check.due("40: at two, the first", g.at(2, 3, 0), 2);
    check.due("40: at three of nought, the first", g.at(-1, 0, 0), 0);
    GreaterBodies cube = Shapes.cube();
    check.due("40: of a cube", cube.at(1, 1, 1), 7);
    check.due("40: of a cube, up", cube.at(0, 0, 1), 1);
    check.due("40: of a cube, the face of x", cube.at(5, 0, 0), 4);
    check.due("40: of a cube, a rim", cube.at(1, 1, 0), 6);
  }

  private static void promise41() {
    GreaterBodies g = new GreaterBodies();
    g.point(1, 2);
    g.point(1, 2);
    g.point(9, 9);
    Shapes.box(g);
    g.on(2, false);
    g.on(5, false);
    g.factors(7, 123);
    check.due("41: points", g.count(0), 3);
    check.due("41: walls", g.count(1), 6);
    check.due("41: walls on", g.count(2), 4);
    check.due("41: r", g.count(3), 7);
    check.due("41: scale", g.count(4), 123);
    check.due("41: above", g.count(5), OUTSIDE);
    check.due("41: below", g.count(-1), OUTSIDE);
    check.due("41: least", g.count(Integer.MIN_VALUE), OUTSIDE);
    g.on(2, true);
    g.on(2, true);
    check.due("41: on twice", g.count(2), 5);
    g.clear();
    check.due("41: cleared", g.count(0), 0);
  }
}
