/** Promises 10 to 15: how few blocks cover, pairs that fool, bounds from below and above. */
public final class BoundsTest {
  private static final int STATE = -900000003;
  private static final Check check = new Check("BoundsTest");
  /** Twelve corners, any first n of which are corners too. */
  private static final int[] ROUND = {-50, -1, 50, 0, 0, -40, 0, 50, -40, -20, 30, 40, 40, -22, -30, 45, -49, -5, 48, -8, -20, -35, 20, -36};

  public static void main(String[] args) {
    promise10();
    promise11();
    promise12();
    promise13();
    promise14();
    promise15();
    check.end();
  }

  private static GreaterBodies round(int corners) {
    GreaterBodies g = new GreaterBodies();
    for (int i = 0; i < corners; i++) {
      g.point(ROUND[2 * i], ROUND[2 * i + 1]);
    }
    check.due("corners", g.corners(), corners);
    return g;
  }

  private static void promise10() {
    for (int n = 0; n < 3; n++) {
      check.due("10: flat, " + n, round(n).open(), STATE);
    }
    check.due("10: three", round(3).open(), 3);
    check.due("10: four", round(4).open(), 8);
    check.due("10: eight", round(8).open(), 48);
    check.due("10: nine, more than the bounds take", round(9).open(), 63);
    check.due("10: twelve", round(12).open(), 120);
    GreaterBodies g = round(4);
    g.point(0, 0);
    check.due("10: a point within", g.open(), 8);
    GreaterBodies small = new GreaterBodies();
    small.point(0, 0);
    small.point(1, 0);
    small.point(0, 1);
    check.due("10: slack of 1", small.open(), 3);
    GreaterBodies line = new GreaterBodies();
    line.point(0, 0);
    line.point(1, 1);
    line.point(2, 2);
    check.due("10: flat, three on a line", line.open(), STATE);
  }

  /** What is due for 3 to 8 corners, and STATE for fewer and for more. */
  private static void promise11() {
    int[] due = {STATE, STATE, STATE, 3, 4, 5, 5, 6, 6, STATE, STATE, STATE, STATE};
    for (int n = 0; n < due.length; n++) {
      check.due("11: cover of " + n, round(n).cover(), due[n]);
    }
    for (int n = 3; n <= 8; n++) {
      check.due("11: searched out, " + n, round(n).cover(), Searches.cover(openOf(round(n))));
    }
  }

  private static void promise12() {
    int[] due = {STATE, STATE, STATE, 3, 4, 5, 4, 4, 4, STATE, STATE, STATE, STATE};
    for (int n = 0; n < due.length; n++) {
      check.due("12: fools of " + n, round(n).fools(), due[n]);
    }
    for (int n = 3; n <= 8; n++) {
      check.due("12: searched out, " + n, round(n).fools(), Searches.fools(openOf(round(n))));
    }
  }

  private static boolean[][] openOf(GreaterBodies g) {
    int n = g.corners();
    boolean[][] open = new boolean[n][n];
    for (int i = 0; i < n; i++) {
      for (int j = 0; j < n; j++) {
        open[i][j] = g.slack(i, j) > 0;
      }
    }
    return open;
  }

  private static void promise13() {
    int[] due = {STATE, STATE, STATE, 3, 4, 4, 4, 4, 5, STATE, STATE, STATE, STATE};
    for (int n = 0; n < due.length; n++) {
      check.due("13: log of " + n, round(n).log(), due[n]);
    }
  }

  private static void promise14() {
    int[] due = {STATE, STATE, STATE, 3, 4, 5, 5, 6, 6, STATE, STATE, STATE, STATE};
    for (int n = 0; n < due.length; n++) {
      check.due("14: low of " + n, round(n).low(), due[n]);
    }
  }

  private static void promise15() {
    int[] due = {STATE, STATE, STATE, 3, 4, 5, 6, 7, 8, 9, 10, 11, 12};
    for (int n = 0; n < due.length; n++) {
      check.due("15: high of " + n, round(n).high(), due[n]);
    }
    highByFactors();
    highByWalls();
  }

  private static void highByFactors() {
    GreaterBodies g = Shapes.hexagon();
    g.factors(5, 1);
    check.due("15: factors that do not hold", g.high(), 6);
    Shapes.fillFive(g);
    check.due("15: five that hold, for six corners", g.high(), 5);
    g.factors(8, 1);
    check.due("15: eight that hold", g.high(), 6);
    g.factors(5, 2);
    check.due("15: at another scale they do not", g.high(), 6);
    g.factors(5, 1);
    g.point(3, 3);
    check.due("15: another figure of six corners", g.high(), 6);
    check.due("15: for which they do not hold", g.hold(), 0);
    g.clear();
    check.due("15: flat", g.high(), STATE);
  }

  private static void highByWalls() {
    GreaterBodies g = Shapes.hexagon();
    Shapes.wallsOfFive(g);
    check.due("15: the body shows the figure", g.seen(), 1);
    check.due("15: five walls for six corners", g.high(), 5);
    check.due("15: low is no more", g.low(), 5);
    g.on(0, false);
    check.due("15: a wall is off", g.high(), 6);
    g.on(0, true);
    g.wall(1, 0, 0, -50);
    check.due("15: one wall too many, five do", g.high(), 5);
    g.shift(1, 3);
    check.due("15: no set shows it", g.high(), 6);

    GreaterBodies square = Shapes.square();
    Shapes.box(square);
    check.due("15: six walls for four corners", square.high(), 4);
  }
}
