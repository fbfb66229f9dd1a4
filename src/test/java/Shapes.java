/** Figures and bodies that several tests use. */
final class Shapes {
  private Shapes() {
  }

  static GreaterBodies square() {
    GreaterBodies g = new GreaterBodies();
    g.point(-1, -1);
    g.point(1, -1);
    g.point(1, 1);
    g.point(-1, 1);
    return g;
  }

  /** The walls 0 to 5 of a cube from -1 to 1. */
  static void box(GreaterBodies g) {
    g.wall(1, 0, 0, 1);
    g.wall(-1, 0, 0, 1);
    g.wall(0, 1, 0, 1);
    g.wall(0, -1, 0, 1);
    g.wall(0, 0, 1, 1);
    g.wall(0, 0, -1, 1);
  }

  static GreaterBodies cube() {
    GreaterBodies g = new GreaterBodies();
    box(g);
    return g;
  }

  /** Six corners that are the shadow of a body of five walls. */
  static GreaterBodies hexagon() {
    GreaterBodies g = new GreaterBodies();
    g.point(1, 0);
    g.point(1, 1);
    g.point(0, 1);
    g.point(-1, 0);
    g.point(-1, -1);
    g.point(0, -1);
    return g;
  }

  static void wallsOfFive(GreaterBodies g) {
    g.wall(0, 0, -1, 0);
    g.wall(-1, 1, 1, 1);
    g.wall(1, -1, 1, 1);
    g.wall(1, 1, -1, 1);
    g.wall(-1, -1, -1, 1);
  }

  /** Two tables of five that multiply to the slack of the hexagon. */
  static void fillFive(GreaterBodies g) {
    int[][] left = {
        {0, 1, 1, 0, 0}, {0, 0, 2, 1, 0}, {1, 0, 1, 0, 0}, {1, 0, 0, 0, 1}, {0, 0, 0, 1, 2}, {0, 1, 0, 0, 1}};
    int[][] right = {
        {2, 1, 0, 0, 0, 1}, {0, 0, 1, 2, 1, 0}, {0, 0, 0, 0, 1, 1}, {1, 0, 0, 1, 0, 0}, {0, 1, 1, 0, 0, 0}};
    for (int i = 0; i < 6; i++) {
      for (int k = 0; k < 5; k++) {
        g.entry(true, i, k, left[i][k]);
        g.entry(false, k, i, right[k][i]);
      }
    }
  }

  /** Half of the corners of the cube: four walls with the shadow of the square. */
  static void spike(GreaterBodies g, int first, int behind) {
    int[][] walls = {{-1, -1, -1}, {-1, 1, 1}, {1, -1, 1}, {1, 1, -1}};
    for (int i = first; i < behind; i++) {
      g.wall(walls[i][0], walls[i][1], walls[i][2], 1);
    }
  }

  /** The other half. */
  static void mirroredSpike(GreaterBodies g) {
    g.wall(-1, -1, 1, 1);
    g.wall(-1, 1, -1, 1);
    g.wall(1, -1, -1, 1);
    g.wall(1, 1, 1, 1);
  }
}
