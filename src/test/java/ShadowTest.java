/** Promises 30 to 37: the shadow, whether it is the figure, the fewest walls, how far to blow it up. */
public final class ShadowTest {
  private static final int UNKNOWN = -900000001, STATE = -900000003, NONE = -900000009;
  private static final Check check = new Check("ShadowTest");

  public static void main(String[] args) {
    promise30();
    promise31();
    promise32();
    promise33();
    promise34();
    promise35();
    promise36();
    promise37();
    check.end();
  }

  private static GreaterBodies of(int... abcd) {
    GreaterBodies g = new GreaterBodies();
    for (int i = 0; i + 3 < abcd.length; i += 4) {
      check.due("wall", g.wall(abcd[i], abcd[i + 1], abcd[i + 2], abcd[i + 3]), i / 4);
    }
    return g;
  }

  /** x, y, z of 0 and more, 2x + 3y + 5z of 7 at most. */
  private static GreaterBodies tip() {
    return of(-1, 0, 0, 0, 0, -1, 0, 0, 0, 0, -1, 0, 2, 3, 5, 7);
  }

  /** Flat: x + y + z of 1, a side each on the walls of x, y, z. */
  private static GreaterBodies sheet() {
    return of(-1, 0, 0, 0, 0, -1, 0, 0, 0, 0, -1, 0, 1, 1, 1, 1, -1, -1, -1, -1);
  }

  private static long[] outline(GreaterBodies g) {
    long[] told = new long[Math.max(0, g.shadow()) * 4];
    for (int i = 0; i < told.length; i++) {
      told[i] = g.shadowAt(i / 4, i % 4 >= 2, i % 2 == 0);
    }
    return told;
  }

  private static long[] needed(GreaterBodies g) {
    long[] told = new long[Math.max(0, g.fewest())];
    for (int i = 0; i < told.length; i++) {
      told[i] = g.needed(i);
    }
    check.due("one more", g.needed(told.length), NONE);
    return told;
  }

  private static void promise30() {
    GreaterBodies g = new GreaterBodies();
    check.due("30: no walls", g.shadow(), STATE);
    g = Shapes.cube();
    check.due("30: a cube, places twice", g.shadow(), 4);
    g.on(4, false);
    check.due("30: not sound", g.shadow(), STATE);
    check.due("30: a tip", tip().shadow(), 3);
    check.due("30: a tip falls within", of(1, 0, 1, 0, -1, 0, 1, 0, 0, 1, 1, 0, 0, -1, 1, 0, 0, 0, -1, 5).shadow(), 4);
    check.due("30: flat, but aslant", sheet().shadow(), 3);
    check.due("30: flat, upright", of(1, 0, 0, 0, -1, 0, 0, 0, 0, 1, 0, 1, 0, -1, 0, 1, 0, 0, 1, 1, 0, 0, -1, 1).shadow(), 2);
    check.due("30: an upright line", of(1, 0, 0, 0, -1, 0, 0, 0, 0, 1, 0, 1, 0, -1, 0, -1, 0, 0, 1, 1, 0, 0, -1, 1).shadow(), 1);
    GreaterBodies six = new GreaterBodies();
    Shapes.wallsOfFive(six);
    check.due("30: six of five walls", six.shadow(), 6);
  }

  private static void promise31() {
    check.row("31: a cube", outline(Shapes.cube()), -1, 1, -1, 1, 1, 1, -1, 1, 1, 1, 1, 1, -1, 1, 1, 1);
    check.row("31: fractions", outline(tip()), 0, 1, 0, 1, 7, 2, 0, 1, 0, 1, 7, 3);
    GreaterBodies g = new GreaterBodies();
    check.due("31: no walls", g.shadowAt(0, false, true), STATE);
    g = tip();
    check.due("31: no such", g.shadowAt(3, false, true), UNKNOWN);
    check.due("31: below 0", g.shadowAt(-1, true, false), UNKNOWN);
    check.due("31: greatest", g.shadowAt(Integer.MAX_VALUE, true, false), UNKNOWN);
    g.on(3, false);
    check.due("31: not sound", g.shadowAt(0, false, true), STATE);
    check.due("31: not sound comes first", g.shadowAt(-1, false, true), STATE);
    check.row("31: an upright sheet, the ends", outline(of(1, 1, 0, 0, -1, -1, 0, 0, 0, 2, 0, 1, 0, -3, 0, 1, 0, 0, 1, 1, 0, 0, -1, 1)),
        -1, 2, 1, 2, 1, 3, -1, 3);
    check.row("31: of like x the least y", outline(of(1, 0, 0, 0, -1, 0, 0, 0, 0, 2, 0, 1, 0, -3, 0, 1, 0, 0, 1, 1, 0, 0, -1, 1)),
        0, 1, -1, 3, 0, 1, 1, 2);
    check.row("31: a place", outline(of(2, 0, 0, 1, -2, 0, 0, -1, 0, 3, 0, -1, 0, -3, 0, 1, 0, 0, 1, 1, 0, 0, -1, 1)), 1, 2, -1, 3);
  }

  private static void promise32() {
    GreaterBodies g = Shapes.square();
    check.due("32: no walls", g.seen(), STATE);
    Shapes.box(g);
    check.due("32: a square of a cube", g.seen(), 1);
    g.point(0, 1);
    g.point(1, 1);
    check.due("32: points that are no corners", g.seen(), 1);
    g.shift(4, 7);
    check.due("32: higher", g.seen(), 1);
    g.shift(0, 2);
    check.due("32: wider", g.seen(), 0);
    g.shift(0, 0);
    check.due("32: narrower", g.seen(), 0);
    g.shift(0, 1);
    g.point(2, 0);
    check.due("32: one corner more", g.seen(), 0);
    g.clear();
    check.due("32: no points", g.seen(), 0);
    g.point(1, 1);
    check.due("32: flat", g.seen(), 0);
    g.on(0, false);
    check.due("32: flat, not sound", g.seen(), STATE);
    GreaterBodies line = of(1, 0, 0, 0, -1, 0, 0, 0, 0, 1, 0, 1, 0, -1, 0, 1, 0, 0, 1, 1, 0, 0, -1, 1);
    line.point(0, -1);
    line.point(0, 1);
    check.due("32: a line of a line is flat", line.seen(), 0);
    check.due("32: though nothing is missed", line.missed() + line.beyond(), 0);
    GreaterBodies thin = sheet();
    thin.point(0, 0);
    thin.point(1, 0);
    thin.point(0, 1);
    check.due("32: a flat body may show it", thin.seen(), 1);
    GreaterBodies five = Shapes.hexagon();
    Shapes.wallsOfFive(five);
    check.due("32: six corners of five walls", five.seen(), 1);
    five.move(0, 0, 0);
    check.due("32: a corner less", five.seen(), 0);
    five.move(0, 1, 0);
    five.move(1, 1, 2);
    check.due("32: a corner elsewhere", five.seen(), 0);
  }

  private static void promise33() {
    GreaterBodies g = new GreaterBodies();
    check.due("33: no walls", g.missed(), STATE);
    Shapes.box(g);
    check.due("33: no points", g.missed(), 0);
    int[][] places = {{1, 1}, {2, 2}, {0, 0}, {-2, 0}, {0, -1}};
    int[] due = {0, 1, 1, 2, 2};
    for (int i = 0; i < places.length; i++) {
      g.point(places[i][0], places[i][1]);
      check.due("33: with point " + i, g.missed(), due[i]);
    }
    g.point(3, 3);
    check.due("33: corners alone count", g.missed(), 2);
    g.on(0, false);
    check.due("33: not sound", g.missed(), STATE);
    GreaterBodies tip = tip();
    tip.point(3, 0);
    tip.point(4, 0);
    tip.point(2, 1);
    check.due("33: on a rim of fractions", tip.missed(), 1);
    tip.move(2, 1, 2);
    check.due("33: just beyond it", tip.missed(), 2);
    GreaterBodies line = of(1, 1, 0, 0, -1, -1, 0, 0, 0, 2, 0, 3, 0, -3, 0, 4, 0, 0, 1, 1, 0, 0, -1, 1);
    int[][] near = {{-1, 1}, {1, -1}, {-2, 2}, {2, -2}, {1, 1}, {0, 1}};
    int[] missed = {0, 0, 1, 1, 1, 1};
    for (int i = 0; i < near.length; i++) {
      line.clear();
      line.point(near[i][0], near[i][1]);
      check.due("33: of a line, " + i, line.missed(), missed[i]);
    }
    GreaterBodies place = of(1, 0, 0, 2, -1, 0, 0, -2, 0, 1, 0, 1, 0, -1, 0, -1, 0, 0, 1, 1, 0, 0, -1, 1);
    place.point(2, 1);
    check.due("33: of a place", place.missed(), 0);
    place.move(0, 2, 0);
    check.due("33: beside a place", place.missed(), 1);
  }

  private static void promise34() {
    GreaterBodies g = Shapes.square();
    check.due("34: no walls", g.beyond(), STATE);
    g.clear();
    check.due("34: neither", g.beyond(), STATE);
    Shapes.box(g);
    check.due("34: no points", g.beyond(), STATE);
    int[][] places = {{0, 0}, {1, 1}, {-1, -1}, {-1, 1}, {1, -1}};
    int[] due = {4, 3, 2, 1, 0};
    for (int i = 0; i < places.length; i++) {
      g.point(places[i][0], places[i][1]);
      check.due("34: with point " + i, g.beyond(), due[i]);
    }
    g.move(1, 0, 2);
    check.due("34: one outside", g.beyond(), 1);
    g.move(1, 3, 3);
    check.due("34: one on the rim", g.beyond(), 0);
    g.on(3, false);
    check.due("34: not sound", g.beyond(), STATE);
    GreaterBodies tip = tip();
    tip.point(0, 0);
    tip.point(3, 0);
    tip.point(0, 2);
    check.due("34: fractions outside", tip.beyond(), 2);
    tip.move(1, 4, 0);
    check.due("34: one of them within", tip.beyond(), 1);
    tip.move(2, 0, 3);
    check.due("34: both", tip.beyond(), 0);
    GreaterBodies flat = Shapes.cube();
    flat.point(-1, -1);
    flat.point(2, 2);
    check.due("34: of a line, two are on it", flat.beyond(), 2);
    flat.move(1, 0, 0);
    check.due("34: of a line, one is on it", flat.beyond(), 3);
  }

  private static void promise35() {
    GreaterBodies g = Shapes.square();
    check.due("35: no walls", g.fewest(), NONE);
    Shapes.box(g);
    check.due("35: all six", g.fewest(), 6);
    Shapes.spike(g, 0, 3);
    check.due("35: with three of a spike, and two walls of the box", g.fewest(), 5);
    Shapes.spike(g, 3, 4);
    check.due("35: with the spike", g.fewest(), 4);
    g.on(7, false);
    check.due("35: off ones are none", g.fewest(), 5);
    g.on(7, true);
    g.shift(7, 2);
    check.due("35: shifted", g.fewest(), 5);
    g.shift(0, -99);
    check.due("35: nothing there with all of them", g.sound(), 0);
    check.due("35: but with some", g.fewest(), 5);
    g.shift(7, 1);
    check.due("35: and with fewer", g.fewest(), 4);
    g.on(8, false);
    check.due("35: but not now", g.fewest(), NONE);
    g.on(8, true);
    g.point(2, 2);
    check.due("35: another figure", g.fewest(), NONE);
    g.move(4, 0, 0);
    check.due("35: a point within", g.fewest(), 4);
    g.clear();
    check.due("35: no figure", g.fewest(), NONE);
    g.point(1, 1);
    g.point(-1, -1);
    check.due("35: flat", g.fewest(), NONE);
    GreaterBodies five = Shapes.hexagon();
    Shapes.wallsOfFive(five);
    check.due("35: five walls", five.fewest(), 5);
    five.wall(0, 0, 1, 1);
    check.due("35: an idle wall more", five.fewest(), 5);
    GreaterBodies cut = Shapes.square();
    Shapes.box(cut);
    cut.wall(1, 1, 1, 2);
    check.due("35: the corner that is cut off is not needed", cut.fewest(), 6);
    cut.on(5, false);
    check.due("35: without end", cut.fewest(), NONE);
    forgotten();
    oneCornerShort();
    oneCornerBeyond();
    oneCornerHalf();
    check.due("35: all ten walls", eight().fewest(), 10);
  }

  /** Every call that changes the figure or the walls brings another answer. */
  private static void forgotten() {
    GreaterBodies g = Shapes.square();
    Shapes.box(g);
    check.due("35: before", g.fewest(), 6);
    g.point(2, 2);
    check.due("35: after point", g.fewest(), NONE);
    g.move(4, 1, 0);
    check.due("35: after move", g.fewest(), 6);
    g.shift(2, 2);
    check.due("35: after shift", g.fewest(), NONE);
    g.wall(0, 1, 0, 1);
    check.due("35: after wall", g.fewest(), 6);
    g.on(5, false);
    check.due("35: after off", g.fewest(), NONE);
    g.on(5, true);
    check.due("35: after on", g.fewest(), 6);
    g.clear();
    check.due("35: after clear", g.fewest(), NONE);
  }

  /** The shadow lies in the figure and has all of its corners but one. */
  private static void oneCornerShort() {
    for (int i = 0; i < 4; i++) {
      GreaterBodies g = Shapes.square();
      Shapes.box(g);
      check.due("35: all corners", g.fewest(), 6);
      g.move(i, i == 0 || i == 3 ? -2 : 2, i < 2 ? -1 : 1);
      check.due("35: corner " + i + " is too far", g.fewest(), NONE);
      check.due("35: and missed", g.missed(), 1);
    }
  }

  /** Walls meet over every corner, but no body of them has a vertex over the first. */
  private static void oneCornerHalf() {
    GreaterBodies g = Shapes.square();
    int[][] walls = {{1, 0, 0, 1}, {0, 1, 0, 1}, {-1, -1, 0, 0}, {0, 0, 1, 1}, {0, 0, -1, 1}, {1, -1, 0, 0}, {-1, 0, 0, 1}};
    for (int[] w : walls) {
      g.wall(w[0], w[1], w[2], w[3]);
    }
    check.due("35: no set shows it", g.fewest(), NONE);
    g.wall(0, -1, 0, 1);
    check.due("35: a wall more, and one does", g.fewest(), 6);
    check.row("35: these", needed(g), 0, 1, 3, 4, 6, 7);
  }

  /** The shadow has all corners of the figure, and one that is outside of it. */
  private static void oneCornerBeyond() {
    for (int i = 0; i < 4; i++) {
      GreaterBodies g = Shapes.square();
      Shapes.box(g);
      g.move(i, 0, 0);
      check.due("35: without corner " + i, g.corners(), 3);
      check.due("35: it is beyond", g.beyond(), 1);
      check.due("35: so there are none", g.fewest(), NONE);
    }
  }

  /** Eight corners on upright walls, a floor and a lid: ten walls, none of them idle. */
  private static GreaterBodies eight() {
    GreaterBodies g = of(1, 0, 0, 3, -1, 0, 0, 3, 0, 1, 0, 3, 0, -1, 0, 3, 1, 1, 0, 4, 1, -1, 0, 4, -1, 1, 0, 4, -1, -1, 0, 4, 0, 0, 1, 1, 0, 0, -1, 1);
    int[][] corners = {{3, 1}, {3, -1}, {-3, 1}, {-3, -1}, {1, 3}, {1, -3}, {-1, 3}, {-1, -3}};
    for (int[] c : corners) {
      g.point(c[0], c[1]);
    }
    check.due("eight corners", g.corners(), 8);
    check.due("seen", g.seen(), 1);
    return g;
  }

  private static void promise36() {
    GreaterBodies g = Shapes.square();
    check.due("36: no walls", g.needed(0), NONE);
    Shapes.box(g);
    check.row("36: all six", needed(g), 0, 1, 2, 3, 4, 5);
    check.due("36: below 0", g.needed(-1), NONE);
    check.due("36: least", g.needed(Integer.MIN_VALUE), NONE);
    check.due("36: greatest", g.needed(Integer.MAX_VALUE), NONE);
    Shapes.spike(g, 0, 4);
    check.row("36: the spike", needed(g), 6, 7, 8, 9);
    g.shift(8, 2);
    check.row("36: five", needed(g), 0, 1, 3, 7, 9);
    GreaterBodies two = Shapes.square();
    Shapes.spike(two, 0, 1);
    Shapes.mirroredSpike(two);
    Shapes.spike(two, 1, 4);
    check.row("36: the first by walls of two spikes", needed(two), 0, 5, 6, 7);
    check.due("36: with all walls another shadow", two.seen(), 0);
    two.on(0, false);
    check.row("36: the other spike", needed(two), 1, 2, 3, 4);
    two.wall(1, 1, 1, 1);
    check.row("36: the first of two that are one", needed(two), 1, 2, 3, 4);
    two.on(4, false);
    check.row("36: the second of them", needed(two), 1, 2, 3, 8);
    two.on(8, false);
    check.row("36: none", needed(two));
    check.row("36: all ten", needed(eight()), 0, 1, 2, 3, 4, 5, 6, 7, 8, 9);
  }

  private static void blow(GreaterBodies g, String call, long over, long below) {
    check.due("37: " + call + ", above", g.blow(true), over);
    check.due("37: " + call + ", below", g.blow(false), below);
  }

  private static void promise37() {
    GreaterBodies g = Shapes.square();
    blow(g, "no walls", STATE, STATE);
    Shapes.box(g);
    blow(g, "the same", 1, 1);
    g.shift(0, 3);
    blow(g, "wider on one side", 1, 1);
    g.shift(1, 3);
    g.shift(2, 5);
    blow(g, "wider on three", 1, 1);
    g.shift(3, 7);
    blow(g, "wider on all", 1, 3);
    g.move(0, 40, -50);
    blow(g, "far out", 40, 3);
    g.move(0, 39, -50);
    blow(g, "in least terms", 13, 1);
    g.clear();
    blow(g, "no points", STATE, STATE);
    g.point(0, 0);
    blow(g, "0, 0 alone", 0, 1);
    g.point(-2, 0);
    blow(g, "a line", 2, 3);
    g.on(0, false);
    blow(g, "not sound", STATE, STATE);
    g.on(0, true);
    g.shift(0, 0);
    blow(g, "0, 0 on the rim", STATE, STATE);
    g.shift(0, -1);
    blow(g, "0, 0 outside", STATE, STATE);
    flatShadows();
    GreaterBodies aslant = of(0, 0, -1, 0, 9, 8, 1, 99, -9, 7, 2, 98, 1, -9, 3, 97, 0, 0, 1, 5);
    aslant.point(-50, 50);
    blow(aslant, "aslant", 400, 49);
    aslant.move(0, 50, 50);
    blow(aslant, "aslant, the other side", 850, 99);
    aslant.move(0, 0, -50);
    blow(aslant, "aslant, the third side", 450, 97);
  }

  private static void flatShadows() {
    GreaterBodies line = of(1, 0, 0, 0, -1, 0, 0, 0, 0, 1, 0, 1, 0, -1, 0, 1, 0, 0, 1, 1, 0, 0, -1, 1);
    line.point(0, 0);
    blow(line, "0, 0 on a line is on its rim", STATE, STATE);
    line.shift(2, 0);
    line.shift(3, 0);
    blow(line, "0, 0 is all of it", STATE, STATE);
  }
}
