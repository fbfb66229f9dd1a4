/** Runs of calls, made by a fixed rule, each answered by the class and by the plain one alike. */
public final class CompareTest {
  private static final int RUNS = 800;
  private static final Check check = new Check("CompareTest");
  private static long seed;

  private GreaterBodies g = new GreaterBodies();
  private Plain p = new Plain();
  private final int run;

  private CompareTest(int run) {
    this.run = run;
  }

  public static void main(String[] args) {
    for (int run = 0; run < RUNS; run++) {
      seed = 7919L * run + 1;
      CompareTest t = new CompareTest(run);
      switch (run % 8) {
        case 0 -> t.figures();
        case 1 -> t.bodies(2, 6);
        case 2 -> t.bodies(9, 99);
        case 3 -> t.boxes();
        case 4 -> t.shadows();
        case 5 -> t.tables();
        case 6 -> t.flats();
        default -> t.anything();
      }
    }
    check.end();
  }

  /** A whole number from 0 to below n. */
  private static int pick(int n) {
    seed = seed * 6364136223846793005L + 1442695040888963407L;
    return (int) ((seed >>> 33) % n);
  }

  private static int from(int least, int most) {
    return least + pick(most - least + 1);
  }

  private static boolean coin() {
    return pick(2) == 1;
  }

  private static int odd() {
    int[] odd = {Integer.MIN_VALUE, Integer.MAX_VALUE, -1, 100, -100, 12, 10, 51, 1000, 10000, -900000009};
    return odd[pick(odd.length)];
  }

  private void due(String call, long got, long want) {
    check.due("run " + run + ": " + call, got, want);
  }

  // ---- calls that change

  private void point(int x, int y) {
    due("point(" + x + ", " + y + ")", g.point(x, y), p.point(x, y));
  }

  private void wall(int a, int b, int c, int d) {
    due("wall(" + a + ", " + b + ", " + c + ", " + d + ")", g.wall(a, b, c, d), p.wall(a, b, c, d));
  }

  private void entry(boolean left, int row, int column, int v) {
    due("entry(" + left + ", " + row + ", " + column + ", " + v + ")", g.entry(left, row, column, v), p.entry(left, row, column, v));
  }

  private void factors(int r, int scale) {
    due("factors(" + r + ", " + scale + ")", g.factors(r, scale), p.factors(r, scale));
  }

  // ---- calls that ask

  private void askFigure() {
    int n = p.corners();
    due("corners()", g.corners(), n);
    due("area()", g.area(), p.area());
    due("open()", g.open(), p.open());
    for (int i = -1; i <= n; i++) {
      due("corner(" + i + ", x)", g.corner(i, false), p.corner(i, false));
      due("corner(" + i + ", y)", g.corner(i, true), p.corner(i, true));
      for (int k = -1; k <= 3; k++) {
        due("wallOf(" + i + ", " + k + ")", g.wallOf(i, k), p.wallOf(i, k));
      }
      for (int k = -1; k <= n; k++) {
        due("slack(" + i + ", " + k + ")", g.slack(i, k), p.slack(i, k));
      }
    }
    int a = from(-100, 100);
    int b = from(-100, 100);
    due("most(" + a + ", " + b + ")", g.most(a, b), p.most(a, b));
  }

  private void askBounds() {
    due("cover()", g.cover(), p.cover());
    due("fools()", g.fools(), p.fools());
    due("log()", g.log(), p.log());
    due("low()", g.low(), p.low());
  }

  private void askTables() {
    due("hold()", g.hold(), p.hold());
    due("wrong()", g.wrong(), p.wrong());
  }

  private void askBody() {
    int n = p.vertices();
    due("sound()", g.sound(), p.sound());
    due("vertices()", g.vertices(), n);
    for (int i = -1; i <= n; i++) {
      for (int k = -1; k <= 3; k++) {
        due("vertex(" + i + ", " + k + ", above)", g.vertex(i, k, true), p.vertex(i, k, true));
        due("vertex(" + i + ", " + k + ", below)", g.vertex(i, k, false), p.vertex(i, k, false));
      }
      due("tight(" + i + ")", g.tight(i), p.tight(i));
    }
    due("rims()", g.rims(), p.rims());
    for (int i = -1; i <= p.count(1); i++) {
      due("idle(" + i + ")", g.idle(i), p.idle(i));
      for (int k = -1; k <= 5; k++) {
        due("about(" + i + ", " + k + ")", g.about(i, k), p.about(i, k));
      }
    }
    for (int i = 0; i < 4; i++) {
      int reach = i == 0 ? 1 : i == 1 ? 9 : 100;
      int a = from(-reach, reach);
      int b = from(-reach, reach);
      int c = from(-reach, reach);
      String arguments = "(" + a + ", " + b + ", " + c + ")";
      due("mostOf" + arguments + " above", g.mostOf(a, b, c, true), p.mostOf(a, b, c, true));
      due("mostOf" + arguments + " below", g.mostOf(a, b, c, false), p.mostOf(a, b, c, false));
      due("at" + arguments, g.at(a, b, c), p.at(a, b, c));
    }
  }

  private void askShadow() {
    int n = p.shadow();
    due("shadow()", g.shadow(), n);
    for (int i = -1; i <= Math.max(0, n); i++) {
      for (int k = 0; k < 4; k++) {
        due("shadowAt(" + i + ", " + k + ")", g.shadowAt(i, k > 1, k % 2 == 0), p.shadowAt(i, k > 1, k % 2 == 0));
      }
    }
    due("seen()", g.seen(), p.seen());
    due("missed()", g.missed(), p.missed());
    due("beyond()", g.beyond(), p.beyond());
    due("blow(above)", g.blow(true), p.blow(true));
    due("blow(below)", g.blow(false), p.blow(false));
  }

  private void askFewest() {
    due("fewest()", g.fewest(), p.fewest());
    due("high()", g.high(), p.high());
    for (int i = -1; i <= Math.max(0, g.fewest()); i++) {
      due("needed(" + i + ")", g.needed(i), p.needed(i));
    }
  }

  private void askCounts() {
    for (int i = -1; i <= 5; i++) {
      due("count(" + i + ")", g.count(i), p.count(i));
    }
  }

  // ---- runs

  private void figures() {
    int reach = coin() ? 3 : coin() ? 12 : 50;
    for (int i = 0; i < 14; i++) {
      point(from(-reach, reach), from(-reach, reach));
      askFigure();
      askBounds();
    }
    for (int i = 0; i < 4; i++) {
      int n = from(-1, 12);
      int x = from(-reach, reach);
      int y = from(-reach, reach);
      due("move(" + n + ", " + x + ", " + y + ")", g.move(n, x, y), p.move(n, x, y));
      askFigure();
    }
    if (coin()) {
      due("clear()", g.clear(), p.clear());
      askFigure();
    }
    askCounts();
  }

  private void bodies(int steep, int far) {
    for (int i = 0; i < from(0, 4); i++) {
      point(from(-4, 4), from(-4, 4));
    }
    for (int i = 0; i < 10; i++) {
      wall(from(-steep, steep), from(-steep, steep), from(-steep, steep), from(coin() ? 0 : -far, far));
      if (i > 2) {
        askBody();
        askShadow();
      }
    }
    askFewest();
    askCounts();
  }

  /** A box and some walls about it: with many places at which more than three walls meet. */
  private void boxes() {
    int half = from(1, 3);
    for (int i = 0; i < 6; i++) {
      int step = i % 2 == 0 ? 1 : -1;
      int times = pick(4) == 0 ? 2 : 1;
      wall(i / 2 == 0 ? step * times : 0, i / 2 == 1 ? step * times : 0, i / 2 == 2 ? step * times : 0, half * times);
    }
    for (int i = 0; i < from(2, 5); i++) {
      point(from(-3, 3), from(-3, 3));
    }
    for (int i = 0; i < 5; i++) {
      wall(from(-1, 1), from(-1, 1), from(-1, 1), from(0, 3) * half);
      askBody();
      askShadow();
      change();
      askShadow();
    }
    askFewest();
  }

  /** Bodies between two walls of one plane, without end as often as not. */
  private void flats() {
    int[] up = {from(-1, 1), from(-1, 1), 1};
    int level = from(-1, 1);
    wall(from(-1, 1), from(-1, 1), 1, from(0, 3));
    for (int i = 0; i < 7; i++) {
      int side = i == pick(7) ? -1 : 1;
      if (i == 2 || i == 5) {
        int sign = i == 2 ? 1 : -1;
        wall(sign * up[0], sign * up[1], sign * up[2], sign * level);
      } else {
        wall(from(-1, 1), from(-1, 1), from(-1, 1) * side, from(0, 3));
      }
      askBody();
      askShadow();
    }
    for (int i = 0; i < 3; i++) {
      point(from(-2, 2), from(-2, 2));
    }
    askFewest();
    change();
    askBody();
    askShadow();
  }

  private void change() {
    int w = from(-1, 10);
    if (coin()) {
      boolean on = coin();
      due("on(" + w + ", " + on + ")", g.on(w, on), p.on(w, on));
    } else {
      int d = from(-1, 4);
      due("shift(" + w + ", " + d + ")", g.shift(w, d), p.shift(w, d));
    }
  }

  /** A body whose shadow has whole corners, these for points, and sets of fewer walls that show it. */
  private void shadows() {
    int[][][] bodies = {
        {{-1, -1, -1, 1}, {-1, 1, 1, 1}, {1, -1, 1, 1}, {1, 1, -1, 1}},
        {{0, 0, -1, 0}, {-1, 1, 1, 1}, {1, -1, 1, 1}, {1, 1, -1, 1}, {-1, -1, -1, 1}},
        {{1, 0, 1, 1}, {-1, 0, 1, 1}, {0, 1, 1, 1}, {0, -1, 1, 1}, {0, 0, -1, 0}},
        {{1, 1, 0, 6}, {-1, 1, 0, 6}, {1, -1, 0, 6}, {-1, -1, 0, 6}, {0, 0, 1, 3}, {1, 0, -1, 2}, {-1, 0, -1, 2}},
        {{1, 0, 0, 1}, {-1, 0, 0, 1}, {0, 1, 0, 1}, {0, -1, 0, 1}, {0, 0, 1, 1}, {0, 0, -1, 1}}};
    int[][] body = bodies[pick(bodies.length)];
    int times = from(1, 3);
    int before = from(0, 2);
    for (int i = 0; i < before; i++) {
      wall(from(-1, 1), from(-1, 1), from(-1, 1), from(1, 3) * times);
    }
    int start = pick(body.length);
    for (int i = 0; i < body.length; i++) {
      int[] w = body[(start + i) % body.length];
      wall(w[0], w[1], w[2], w[3] * times);
    }
    pointsOfShadow();
    askFewest();
    for (int i = 0; i < 5; i++) {
      int[] w = body[pick(body.length)];
      boolean mirrored = coin();
      wall(mirrored ? -w[0] : w[0], w[1], coin() ? -w[2] : w[2], w[3] * times);
    }
    askBody();
    askShadow();
    askFewest();
    pointsOfShadow();
    askFewest();
    askBounds();
    change();
    askFewest();
    askShadow();
    int n = pick(p.count(0));
    int x = from(-4, 4);
    int y = from(-4, 4);
    due("move(" + n + ", " + x + ", " + y + ")", g.move(n, x, y), p.move(n, x, y));
    askFewest();
    point(from(-4, 4), from(-4, 4));
    askFewest();
    askShadow();
  }

  private void pointsOfShadow() {
    due("clear()", g.clear(), p.clear());
    for (int i = 0; i < p.shadow(); i++) {
      point((int) (p.shadowAt(i, false, true) / p.shadowAt(i, false, false)), (int) (p.shadowAt(i, true, true) / p.shadowAt(i, true, false)));
    }
    point(0, 0);
    askShadow();
  }

  /** The slack by itself times a table that only keeps it, and what happens when one entry is another. */
  private void tables() {
    int n = from(3, 9);
    for (int i = 0; i < n; i++) {
      point(from(-9, 9), from(-9, 9));
    }
    int sides = p.corners();
    int scale = from(1, 9);
    factors(from(1, 8), scale);
    boolean slackLeft = coin();
    for (int i = 0; i < sides && p.area() != 0; i++) {
      for (int j = 0; j < Math.min(8, sides); j++) {
        entry(true, i, j, slackLeft ? p.slack(i, j) : i == j ? scale : 0);
        entry(false, j, i, slackLeft ? i == j ? scale : 0 : p.slack(j, i));
      }
    }
    askTables();
    factors(Math.max(1, Math.min(8, sides)), scale);
    askTables();
    due("high()", g.high(), p.high());
    for (int i = 0; i < 4; i++) {
      boolean left = coin();
      entry(left, from(-1, left ? 12 : 8), from(-1, left ? 8 : 12), from(-1, 3));
      askTables();
    }
    factors(from(0, 9), from(0, 3));
    askTables();
    due("high()", g.high(), p.high());
    askCounts();
  }

  /** Any call with any arguments, now and then far out ones. */
  private void anything() {
    for (int i = 0; i < 300; i++) {
      int a = some();
      int b = some();
      int c = some();
      int d = some();
      boolean t = coin();
      boolean u = coin();
      String arguments = "(" + a + ", " + b + ", " + c + ", " + d + ", " + t + ", " + u + ")";
      int call = pick(40);
      due("call " + call + arguments, answer(call, a, b, c, d, t, u), plainAnswer(call, a, b, c, d, t, u));
    }
  }

  private static int some() {
    return pick(12) == 0 ? odd() : pick(4) == 0 ? from(-60, 60) : from(-1, 8);
  }

  private long answer(int call, int a, int b, int c, int d, boolean t, boolean u) {
    return switch (call) {
      case 0 -> g.point(a, b);
      case 1 -> g.move(a, b, c);
      case 2 -> a == 5 ? g.clear() : 0;
      case 3 -> g.corners();
      case 4 -> g.corner(a, t);
      case 5 -> g.wallOf(a, b);
      case 6 -> g.slack(a, b);
      case 7 -> g.area();
      case 8 -> g.open();
      case 9 -> g.cover();
      case 10 -> g.fools();
      case 11 -> g.log();
      case 12 -> g.low();
      case 13 -> g.high();
      case 14 -> g.factors(a, b);
      case 15 -> g.entry(t, a, b, c);
      case 16 -> g.hold();
      case 17 -> g.wrong();
      case 18 -> g.wall(a, b, c, d);
      case 19 -> g.shift(a, b);
      case 20 -> g.on(a, t);
      case 21 -> g.about(a, b);
      case 22 -> g.sound();
      case 23 -> g.vertices();
      case 24 -> g.vertex(a, b, t);
      case 25 -> g.tight(a);
      case 26 -> g.rims();
      case 27 -> g.idle(a);
      case 28 -> g.shadow();
      case 29 -> g.shadowAt(a, t, u);
      case 30 -> g.seen();
      case 31 -> g.missed();
      case 32 -> g.beyond();
      case 33 -> g.fewest();
      case 34 -> g.needed(a);
      case 35 -> g.blow(t);
      case 36 -> g.most(a, b);
      case 37 -> g.mostOf(a, b, c, t);
      case 38 -> g.at(a, b, c);
      default -> g.count(a);
    };
  }

  private long plainAnswer(int call, int a, int b, int c, int d, boolean t, boolean u) {
    return switch (call) {
      case 0 -> p.point(a, b);
      case 1 -> p.move(a, b, c);
      case 2 -> a == 5 ? p.clear() : 0;
      case 3 -> p.corners();
      case 4 -> p.corner(a, t);
      case 5 -> p.wallOf(a, b);
      case 6 -> p.slack(a, b);
      case 7 -> p.area();
      case 8 -> p.open();
      case 9 -> p.cover();
      case 10 -> p.fools();
      case 11 -> p.log();
      case 12 -> p.low();
      case 13 -> p.high();
      case 14 -> p.factors(a, b);
      case 15 -> p.entry(t, a, b, c);
      case 16 -> p.hold();
      case 17 -> p.wrong();
      case 18 -> p.wall(a, b, c, d);
      case 19 -> p.shift(a, b);
      case 20 -> p.on(a, t);
      case 21 -> p.about(a, b);
      case 22 -> p.sound();
      case 23 -> p.vertices();
      case 24 -> p.vertex(a, b, t);
      case 25 -> p.tight(a);
      case 26 -> p.rims();
      case 27 -> p.idle(a);
      case 28 -> p.shadow();
      case 29 -> p.shadowAt(a, t, u);
      case 30 -> p.seen();
      case 31 -> p.missed();
      case 32 -> p.beyond();
      case 33 -> p.fewest();
      case 34 -> p.needed(a);
      case 35 -> p.blow(t);
      case 36 -> p.most(a, b);
      case 37 -> p.mostOf(a, b, c, t);
      case 38 -> p.at(a, b, c);
      default -> p.count(a);
    };
  }
}
