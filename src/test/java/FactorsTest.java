/** Promises 16 to 19: tables that multiply to the slack. */
public final class FactorsTest {
  private static final int UNKNOWN = -900000001, OUTSIDE = -900000002, STATE = -900000003, NONE = -900000009;
  private static final Check check = new Check("FactorsTest");

  public static void main(String[] args) {
    promise16();
    promise17();
    promise18();
    promise19();
    check.end();
  }

  private static void promise16() {
    GreaterBodies g = new GreaterBodies();
    check.due("16: r was", g.factors(8, 999), 1);
    check.due("16: r", g.count(3), 8);
    check.due("16: scale", g.count(4), 999);
    int[][] out = {{0, 5}, {9, 5}, {-1, 5}, {3, 0}, {3, 1000}, {3, -1}, {Integer.MIN_VALUE, 5}, {3, Integer.MAX_VALUE}};
    for (int[] o : out) {
      check.due("16: factors(" + o[0] + ", " + o[1] + ")", g.factors(o[0], o[1]), OUTSIDE);
    }
    check.due("16: refused, r", g.count(3), 8);
    check.due("16: refused, scale", g.count(4), 999);
    check.due("16: r was", g.factors(1, 1), 8);
    check.due("16: r was", g.factors(1, 2), 1);
    check.due("16: scale", g.count(4), 2);
    g.entry(true, 3, 7, 44);
    g.factors(4, 1);
    g.factors(2, 1);
    check.due("16: entries stay", g.entry(true, 3, 7, 0), 44);
  }

  private static void promise17() {
    GreaterBodies g = new GreaterBodies();
    check.due("17: 0 at first", g.entry(true, 11, 7, 9999), 0);
    check.due("17: what it was", g.entry(true, 11, 7, 0), 9999);
    check.due("17: the other table", g.entry(false, 7, 11, 12), 0);
    check.due("17: what it was", g.entry(false, 7, 11, 13), 12);
    check.due("17: corner of the table", g.entry(true, 0, 0, 5), 0);
    check.due("17: corner of the other", g.entry(false, 0, 0, 6), 0);
    check.due("17: apart", g.entry(true, 0, 0, 7), 5);
    int[][] unknown = {{1, 12, 0}, {1, -1, 0}, {1, 0, 8}, {1, 0, -1}, {0, 8, 0}, {0, -1, 0}, {0, 0, 12}, {0, 0, -1}, {1, Integer.MAX_VALUE, 0}, {0, 0, Integer.MIN_VALUE}};
    for (int[] u : unknown) {
      check.due("17: entry(" + (u[0] == 1) + ", " + u[1] + ", " + u[2] + ", 1)", g.entry(u[0] == 1, u[1], u[2], 1), UNKNOWN);
      check.due("17: unknown comes first", g.entry(u[0] == 1, u[1], u[2], -1), UNKNOWN);
    }
    check.due("17: above", g.entry(true, 0, 0, 10000), OUTSIDE);
    check.due("17: below", g.entry(true, 0, 0, -1), OUTSIDE);
    check.due("17: above", g.entry(false, 0, 0, Integer.MAX_VALUE), OUTSIDE);
    check.due("17: refused changes nothing", g.entry(true, 0, 0, 0), 7);
    everyEntryByItself();
  }

  private static void everyEntryByItself() {
    GreaterBodies g = new GreaterBodies();
    for (int i = 0; i < 12; i++) {
      for (int k = 0; k < 8; k++) {
        g.entry(true, i, k, 100 + 8 * i + k);
        g.entry(false, k, i, 1000 + 12 * k + i);
      }
    }
    for (int i = 0; i < 12; i++) {
      for (int k = 0; k < 8; k++) {
        check.due("17: entry of edge " + i + ", " + k, g.entry(true, i, k, 0), 100 + 8 * i + k);
        check.due("17: entry of " + k + ", corner " + i, g.entry(false, k, i, 0), 1000 + 12 * k + i);
      }
    }
  }

  private static void promise18() {
    GreaterBodies g = new GreaterBodies();
    check.due("18: no points", g.hold(), STATE);
    g.point(0, 0);
    g.point(3, 3);
    g.point(5, 5);
    check.due("18: flat", g.hold(), STATE);
    g = Shapes.hexagon();
    check.due("18: tables of nought", g.hold(), 0);
    Shapes.fillFive(g);
    check.due("18: r is 1", g.hold(), 0);
    g.factors(5, 1);
    check.due("18: they hold", g.hold(), 1);
    g.factors(6, 1);
    check.due("18: noughts do no harm", g.hold(), 1);
    g.entry(true, 0, 5, 1);
    g.entry(false, 5, 0, 1);
    check.due("18: more than noughts do", g.hold(), 0);
    g.factors(5, 1);
    check.due("18: beyond r nothing counts", g.hold(), 1);
    g.factors(5, 2);
    check.due("18: the scale counts", g.hold(), 0);
    for (int i = 0; i < 6; i++) {
      for (int k = 0; k < 5; k++) {
        g.entry(true, i, k, 2 * g.entry(true, i, k, 0));
      }
    }
    check.due("18: twice the table, twice the scale", g.hold(), 1);
    g.entry(true, 6, 0, 77);
    g.entry(false, 0, 6, 77);
    check.due("18: rows and columns of no edge, no corner", g.hold(), 1);
    g.point(0, 0);
    check.due("18: a point within", g.hold(), 1);
    g.move(0, 2, 0);
    check.due("18: another figure", g.hold(), 0);
    large();
  }

  /** Products as large as they come do not wrap round. */
  private static void large() {
    GreaterBodies g = new GreaterBodies();
    g.point(0, 0);
    g.point(1, 0);
    g.point(0, 1);
    g.factors(8, 999);
    for (int i = 0; i < 12; i++) {
      for (int k = 0; k < 8; k++) {
        g.entry(true, i, k, 9999);
        g.entry(false, k, i, 9999);
      }
    }
    check.due("18: far too much", g.hold(), 0);
    check.due("18: far too much, at once", g.wrong(), 0);
  }

  private static void promise19() {
    GreaterBodies g = new GreaterBodies();
    check.due("19: no points", g.wrong(), STATE);
    g.point(0, 0);
    g.point(3, 3);
    check.due("19: flat", g.wrong(), STATE);
    g = Shapes.hexagon();
    check.due("19: edge 0 has slack from corner 2 on", g.wrong(), 2);
    Shapes.fillFive(g);
    g.factors(5, 1);
    check.due("19: they hold", g.wrong(), NONE);
    g.entry(true, 5, 4, 2);
    check.due("19: the last edge, the corner first of column 4", g.wrong(), 501);
    g.entry(false, 4, 1, 0);
    check.due("19: an edge before that", g.wrong(), 301);
    g.entry(false, 4, 1, 1);
    g.entry(true, 5, 4, 1);
    g.entry(true, 2, 4, 3);
    check.due("19: edge by edge", g.wrong(), 201);
    g.entry(false, 0, 5, 8);
    check.due("19: then corner by corner", g.wrong(), 201);
    g.entry(true, 2, 4, 0);
    check.due("19: the last corner", g.wrong(), 205);
    twelve();
  }

  /** All of twelve edges, one table the slack and the other the whole numbers 1. */
  private static void twelve() {
    GreaterBodies g = new GreaterBodies();
    int[] round = {-50, -1, -49, -5, -40, -20, -20, -35, 0, -40, 20, -36, 40, -22, 48, -8, 50, 0, 30, 40, 0, 50, -30, 45};
    for (int i = 0; i < 12; i++) {
      g.point(round[2 * i], round[2 * i + 1]);
    }
    g.factors(8, 1);
    for (int i = 0; i < 8; i++) {
      g.entry(true, i, i, 1);
      for (int j = 0; j < 12; j++) {
        g.entry(false, i, j, Math.min(9999, g.slack(i, j)));
      }
    }
    check.due("19: the ninth edge has no row of its own", g.wrong(), 800);
    g.entry(false, 7, 11, g.slack(7, 11) + 1);
    check.due("19: two figures of the corner", g.wrong(), 711);
  }
}
