/**
 * A figure of the plane, and a body of space whose shadow it may be: the figure's
 * corners, walls and slack, bounds on how few walls can do, tables that multiply to
 * the slack, the body's corners and edges, its shadow, and what is greatest on both.
 */
public final class GreaterBodies {
  public static final int UNKNOWN = -900000001, OUTSIDE = -900000002, STATE = -900000003, FULL = -900000004, NONE = -900000009;

  private static final int MOST_POINTS = 12;
  private static final int MOST_BOUNDED = 8;
  private static final int MOST_INNER = 8;
  private static final int MOST_WALLS = 10;
  /** Threes of ten walls. */
  private static final int MOST_MEETS = 120;
  /** Twos of ten walls, and both ways along each. */
  private static final int MOST_RAYS = 90;
  private static final int FARTHEST_PLACE = 50;
  private static final int LARGEST_SCALE = 999;
  private static final int LARGEST_ENTRY = 9999;
  private static final int STEEPEST_WALL = 9;
  private static final int FARTHEST_WALL = 99;
  private static final int STEEPEST_AIM = 99;
  /** Far more than Euclid's way takes on numbers of 64 bits. */
  private static final int DIVISIONS = 200;

  // Edge i is shut to corners i and i + 1 alone, whatever the figure looks like, so both
  // tables go by the number of corners; the tests search them out anew.
  private static final int[] COVER_BY_CORNERS = {0, 0, 0, 3, 4, 5, 5, 6, 6};
  private static final int[] FOOLS_BY_CORNERS = {0, 0, 0, 3, 4, 5, 4, 4, 4};

  private final Figure plane;
  private final Tables tables;
  private final Body space;
  private final Choice choice;

  public GreaterBodies() {
    plane = new Figure();
    tables = new Tables();
    space = new Body();
    choice = new Choice();
  }

  // ---- the figure

  public int point(int x, int y) {
    if (!isPlace(x, y)) {
      return OUTSIDE;
    }
    if (plane.size() >= MOST_POINTS) {
      return FULL;
    }
    choice.forget();
    return plane.add(x, y);
  }

  public int move(int point, int x, int y) {
    if (point < 0 || point >= plane.size()) {
      return UNKNOWN;
    }
    if (!isPlace(x, y)) {
      return OUTSIDE;
    }
    choice.forget();
    plane.put(point, x, y);
    return 1;
  }

  public int clear() {
    choice.forget();
    return plane.drop();
  }

  public int corners() {
    return plane.hull().size();
  }

  public int corner(int corner, boolean y) {
    if (!plane.hull().has(corner)) {
      return UNKNOWN;
    }
    return y ? plane.hull().yOf(corner) : plane.hull().xOf(corner);
  }

  public int wallOf(int edge, int what) {
    if (!plane.hull().has(edge)) {
      return UNKNOWN;
    }
    if (plane.isFlat()) {
      return STATE;
    }
    if (!isWithin(what, 0, 2)) {
      return OUTSIDE;
    }
    return plane.wallPart(edge, what);
  }

  public int slack(int edge, int corner) {
    if (!plane.hull().has(edge) || !plane.hull().has(corner)) {
      return UNKNOWN;
    }
    return plane.isFlat() ? STATE : plane.gap(edge, corner);
  }

  public int area() {
    return plane.twiceArea();
  }

  // ---- bounds

  public int open() {
    return plane.isFlat() ? STATE : plane.openPairs();
  }

  public int cover() {
    return isBounded() ? COVER_BY_CORNERS[plane.hull().size()] : STATE;
  }

  public int fools() {
    return isBounded() ? FOOLS_BY_CORNERS[plane.hull().size()] : STATE;
  }

  public int log() {
    return isBounded() ? levels() : STATE;
  }

  public int low() {
    if (!isBounded()) {
      return STATE;
    }
    return Math.max(3, Math.max(COVER_BY_CORNERS[plane.hull().size()], levels()));
  }

  public int high() {
    if (plane.isFlat()) {
      return STATE;
    }
    int least = plane.hull().size();
    if (tables.firstWrong(plane) == NONE) {
      least = Math.min(least, tables.inner());
    }
    int chosen = choice.walls(plane, space);
    return chosen == 0 ? least : Math.min(least, Integer.bitCount(chosen));
  }

  // ---- factors

  public int factors(int r, int scale) {
    if (!isWithin(r, 1, MOST_INNER) || !isWithin(scale, 1, LARGEST_SCALE)) {
      return OUTSIDE;
    }
    return tables.resize(r, scale);
  }

  public int entry(boolean left, int row, int column, int v) {
    int rows = left ? MOST_POINTS : MOST_INNER;
    int columns = left ? MOST_INNER : MOST_POINTS;
    if (!isWithin(row, 0, rows - 1) || !isWithin(column, 0, columns - 1)) {
      return UNKNOWN;
    }
    if (!isWithin(v, 0, LARGEST_ENTRY)) {
      return OUTSIDE;
    }
    return tables.put(left, row * columns + column, v);
  }

  public int hold() {
    if (plane.isFlat()) {
      return STATE;
    }
    return tables.firstWrong(plane) == NONE ? 1 : 0;
  }

  public int wrong() {
    return plane.isFlat() ? STATE : tables.firstWrong(plane);
  }

  // ---- the body

  public int wall(int a, int b, int c, int d) {
    boolean steep = isStep(a) && isStep(b) && isStep(c);
    if (!steep || (a == 0 && b == 0 && c == 0) || !isFar(d)) {
      return OUTSIDE;
    }
    if (space.walls().size() >= MOST_WALLS) {
      return FULL;
    }
    choice.forget();
    return space.build(a, b, c, d);
  }

  public int shift(int wall, int d) {
    if (!space.walls().has(wall)) {
      return UNKNOWN;
    }
    if (!isFar(d)) {
      return OUTSIDE;
    }
    choice.forget();
    return space.push(wall, d);
  }

  public int on(int wall, boolean on) {
    if (!space.walls().has(wall)) {
      return UNKNOWN;
    }
    choice.forget();
    return space.turn(wall, on);
  }

  public int about(int wall, int what) {
    if (!space.walls().has(wall)) {
      return UNKNOWN;
    }
    return isWithin(what, 0, 4) ? space.walls().part(wall, what) : OUTSIDE;
  }

  public int sound() {
    return space.isSound() ? 1 : 0;
  }

  public int vertices() {
    return space.size();
  }

  public long vertex(int vertex, int what, boolean upper) {
    if (!space.has(vertex)) {
      return UNKNOWN;
    }
    return isWithin(what, 0, 2) ? space.coordinate(vertex, what, upper) : OUTSIDE;
  }

  public int tight(int vertex) {
    return space.has(vertex) ? space.tightAt(vertex) : UNKNOWN;
  }

  public int rims() {
    return space.isSound() ? space.rimCount() : STATE;
  }

  public int idle(int wall) {
    if (!space.walls().has(wall)) {
      return UNKNOWN;
    }
    if (!space.isSound()) {
      return STATE;
    }
    return space.isIdle(wall) ? 1 : 0;
  }

  // ---- the shadow

  public int shadow() {
    return space.isSound() ? space.outline().size() : STATE;
  }

  public long shadowAt(int corner, boolean y, boolean upper) {
    if (!space.isSound()) {
      return STATE;
    }
    Outline outline = space.outline();
    if (!outline.has(corner)) {
      return UNKNOWN;
    }
    return told(y ? outline.yOf(corner) : outline.xOf(corner), outline.wOf(corner), upper);
  }

  public int seen() {
    if (!space.isSound()) {
      return STATE;
    }
    if (plane.isFlat()) {
      return 0;
    }
    // Two figures that lie in one another are one.
    boolean same = space.outline().cornersMissing(plane.hull()) == 0
        && plane.hull().cornersMissing(space.outline()) == 0;
    return same ? 1 : 0;
  }

  public int missed() {
    return space.isSound() ? space.outline().cornersMissing(plane.hull()) : STATE;
  }

  public int beyond() {
    if (!space.isSound() || plane.size() == 0) {
      return STATE;
    }
    return plane.hull().cornersMissing(space.outline());
  }

  public int fewest() {
    int chosen = choice.walls(plane, space);
    return chosen == 0 ? NONE : Integer.bitCount(chosen);
  }

  public int needed(int i) {
    int chosen = choice.walls(plane, space);
    int passed = 0;
    for (int wall = 0; wall < MOST_WALLS; wall++) {
      if ((chosen >> wall & 1) == 1) {
        if (passed == i) {
          return wall;
        }
        passed++;
      }
    }
    return NONE;
  }

  public long blow(boolean upper) {
    if (!space.isSound() || plane.size() == 0 || !space.outline().isRoundOrigin()) {
      return STATE;
    }
    return space.outline().growth(plane.hull(), upper);
  }

  // ---- programs

  public int most(int p, int q) {
    if (!isAim(p) || !isAim(q)) {
      return OUTSIDE;
    }
    return plane.size() == 0 ? STATE : plane.greatest(p, q);
  }

  public long mostOf(int p, int q, int s, boolean upper) {
    int refusal = aimRefusal(p, q, s);
    return refusal == 0 ? space.valueAt(space.firstBest(p, q, s), p, q, s, upper) : refusal;
  }

  public int at(int p, int q, int s) {
    int refusal = aimRefusal(p, q, s);
    return refusal == 0 ? space.firstBest(p, q, s) : refusal;
  }

  public int count(int what) {
    switch (what) {
      case 0:
        return plane.size();
      case 1:
        return space.walls().size();
      case 2:
        return Integer.bitCount(space.walls().onSet());
      case 3:
        return tables.inner();
      case 4:
        return tables.scale();
      default:
        return OUTSIDE;
    }
  }

  // ---- what the calls share

  private static boolean isWithin(int value, int least, int greatest) {
    return value >= least && value <= greatest;
  }

  private static boolean isPlace(int x, int y) {
    return isWithin(x, -FARTHEST_PLACE, FARTHEST_PLACE) && isWithin(y, -FARTHEST_PLACE, FARTHEST_PLACE);
  }

  private static boolean isStep(int part) {
    return isWithin(part, -STEEPEST_WALL, STEEPEST_WALL);
  }

  private static boolean isFar(int d) {
    return isWithin(d, -FARTHEST_WALL, FARTHEST_WALL);
  }

  private static boolean isAim(int part) {
    return isWithin(part, -STEEPEST_AIM, STEEPEST_AIM);
  }

  /** What mostOf and at refuse with, or 0. */
  private int aimRefusal(int p, int q, int s) {
    if (!isAim(p) || !isAim(q) || !isAim(s)) {
      return OUTSIDE;
    }
    return space.isSound() ? 0 : STATE;
  }

  private boolean isBounded() {
    return isWithin(plane.hull().size(), 3, MOST_BOUNDED);
  }

  private int levels() {
    int together = 2 * plane.hull().size() + 2;
    int k = 0;
    while (k < 30 && (1 << k) < together) {
      k++;
    }
    return k;
  }

  private static long gcd(long a, long b) {
    long divided = Math.abs(a);
    long divisor = Math.abs(b);
    for (int i = 0; i < DIVISIONS && divisor != 0; i++) {
      long rest = divided % divisor;
      divided = divisor;
      divisor = rest;
    }
    return divided;
  }

  /** The upper or the lower number of a fraction in least terms; below is 1 or more. */
  private static long told(long over, long below, boolean upper) {
    long shared = gcd(over, below);
    if (shared == 0) {
      return 0;
    }
    return (upper ? over : below) / shared;
  }

  /** Places of the plane, each once, and the corners round them; place i is (x / w, y / w), w above 0. */
  private static final class Outline {
    private final int[] x;
    private final int[] y;
    private final int[] w;
    private final int[] ring;
    private int places;
    private int round;

    Outline(int most) {
      x = new int[most];
      y = new int[most];
      w = new int[most];
      // While the ring closes, a place of its lower half may stand in it twice.
      ring = new int[most + 2];
    }

    /** The corners stay those of before until wrap finds them anew. */
    void empty() {
      places = 0;
    }

    /** Places are kept by x, then y: the order that the walk round them needs. */
    void add(int px, int py, int pw) {
      int spot = places;
      while (spot > 0 && side(spot - 1, px, py, pw) > 0) {
        spot--;
      }
      boolean known = spot > 0 && side(spot - 1, px, py, pw) == 0;
      if (known || places >= x.length) {
        return;
      }
      for (int i = places; i > spot; i--) {
        x[i] = x[i - 1];
        y[i] = y[i - 1];
        w[i] = w[i - 1];
      }
      x[spot] = px;
      y[spot] = py;
      w[spot] = pw;
      places++;
    }

    /** Below 0, 0, above 0: place i comes before the given one, is it, comes after it. */
    private int side(int i, int px, int py, int pw) {
      int byX = Long.compare((long) x[i] * pw, (long) px * w[i]);
      return byX != 0 ? byX : Long.compare((long) y[i] * pw, (long) py * w[i]);
    }

    /** Above 0 if the step from place i to place j has the given one on its left. */
    private long turn(int i, int j, int px, int py, int pw) {
      long ofX = (long) y[j] * pw - (long) w[j] * py;
      long ofY = (long) x[j] * pw - (long) w[j] * px;
      long ofW = (long) x[j] * py - (long) y[j] * px;
      return x[i] * ofX - y[i] * ofY + w[i] * ofW;
    }

    /** Finds the corners: along the lower side to the last place, and back along the upper one. */
    void wrap() {
      round = 0;
      for (int i = 0; i < places; i++) {
        extend(i, 2);
      }
      int least = round + 1;
      for (int i = places - 2; i >= 0; i--) {
        extend(i, least);
      }
      if (places > 1) {
        round--;
      }
    }

    private void extend(int place, int least) {
      while (round >= least && turn(ring[round - 2], ring[round - 1], x[place], y[place], w[place]) <= 0) {
        round--;
      }
      if (round < ring.length) {
        ring[round] = place;
        round++;
      }
    }

    int size() {
      return round;
    }

    boolean has(int corner) {
      return corner >= 0 && corner < round;
    }

    int next(int corner) {
      return corner + 1 < round ? corner + 1 : 0;
    }

    int xOf(int corner) {
      return x[ring[corner]];
    }

    int yOf(int corner) {
      return y[ring[corner]];
    }

    int wOf(int corner) {
      return w[ring[corner]];
    }

    /** Which corner the place is, or -1. */
    int cornerAt(int px, int py, int pw) {
      for (int i = 0; i < round; i++) {
        if (side(ring[i], px, py, pw) == 0) {
          return i;
        }
      }
      return -1;
    }

    /** Whether the place is within or on the rim. */
    boolean holds(int px, int py, int pw) {
      // On the line of a flat outline no place is on the right of a step: its ends decide there.
      if (places == 0 || side(0, px, py, pw) > 0 || side(places - 1, px, py, pw) < 0) {
        return false;
      }
      for (int i = 0; i < round; i++) {
        if (turn(ring[i], ring[next(i)], px, py, pw) < 0) {
          return false;
        }
      }
      return true;
    }

    /** How many corners of another outline are outside this one. */
    int cornersMissing(Outline other) {
      int missing = 0;
      for (int i = 0; i < other.round; i++) {
        if (!holds(other.xOf(i), other.yOf(i), other.wOf(i))) {
          missing++;
        }
      }
      return missing;
    }

    /** Whether 0, 0 is within and not on the rim. */
    boolean isRoundOrigin() {
      for (int i = 0; i < round; i++) {
        if (turn(ring[i], ring[next(i)], 0, 0, 1) <= 0) {
          return false;
        }
      }
      return round > 0;
    }

    /** The least number by which this outline, round 0, 0, is taken to hold the other one of whole places. */
    long growth(Outline other, boolean upper) {
      long over = 0;
      long below = 1;
      for (int i = 0; i < round; i++) {
        int from = ring[i];
        int to = ring[next(i)];
        long a = (long) w[from] * y[to] - (long) y[from] * w[to];
        long b = (long) x[from] * w[to] - (long) w[from] * x[to];
        long c = (long) x[from] * y[to] - (long) y[from] * x[to];
        // In least numbers a wall of a shadow stays small enough to be multiplied crosswise.
        long shared = gcd(gcd(a, b), c);
        if (shared == 0 || c <= 0) {
          continue;
        }
        long edge = c / shared;
        for (int j = 0; j < other.round; j++) {
          long reach = a / shared * other.xOf(j) + b / shared * other.yOf(j);
          if (reach * below > over * edge) {
            over = reach;
            below = edge;
          }
        }
      }
      return told(over, below, upper);
    }
  }

  /** The points of the plane, and the figure round them. */
  private static final class Figure {
    private final int[] x = new int[MOST_POINTS];
    private final int[] y = new int[MOST_POINTS];
    private final Outline hull = new Outline(MOST_POINTS);
    private int points;

    int size() {
      return points;
    }

    Outline hull() {
      return hull;
    }

    boolean isFlat() {
      return hull.size() < 3;
    }

    int add(int px, int py) {
      int number = points;
      points++;
      put(number, px, py);
      return number;
    }

    void put(int number, int px, int py) {
      x[number] = px;
      y[number] = py;
      draw();
    }

    int drop() {
      int before = points;
      points = 0;
      draw();
      return before;
    }

    private void draw() {
      hull.empty();
      for (int i = 0; i < points; i++) {
        hull.add(x[i], y[i], 1);
      }
      hull.wrap();
    }

    /** a, b or c of the wall of an edge. */
    int wallPart(int edge, int what) {
      int next = hull.next(edge);
      int stepX = hull.xOf(next) - hull.xOf(edge);
      int stepY = hull.yOf(next) - hull.yOf(edge);
      int shared = (int) gcd(stepX, stepY);
      if (shared == 0) {
        return 0;
      }
      int a = stepY / shared;
      int b = -stepX / shared;
      if (what == 0) {
        return a;
      }
      return what == 1 ? b : a * hull.xOf(edge) + b * hull.yOf(edge);
    }

    int gap(int edge, int corner) {
      return wallPart(edge, 2) - wallPart(edge, 0) * hull.xOf(corner) - wallPart(edge, 1) * hull.yOf(corner);
    }

    int openPairs() {
      int pairs = 0;
      for (int i = 0; i < hull.size(); i++) {
        for (int j = 0; j < hull.size(); j++) {
          if (gap(i, j) > 0) {
            pairs++;
          }
        }
      }
      return pairs;
    }

    int twiceArea() {
      int twice = 0;
      for (int i = 0; i < hull.size(); i++) {
        int next = hull.next(i);
        twice += hull.xOf(i) * hull.yOf(next) - hull.yOf(i) * hull.xOf(next);
      }
      return twice;
    }

    /** What p x + q y is at most; there is a point. */
    int greatest(int p, int q) {
      int best = p * x[0] + q * y[0];
      for (int i = 1; i < points; i++) {
        best = Math.max(best, p * x[i] + q * y[i]);
      }
      return best;
    }
  }

  /** Two tables that may multiply to the slack. */
  private static final class Tables {
    private final int[] left = new int[MOST_POINTS * MOST_INNER];
    private final int[] right = new int[MOST_INNER * MOST_POINTS];
    private int inner = 1;
    private int scale = 1;

    int inner() {
      return inner;
    }

    int scale() {
      return scale;
    }

    int resize(int newInner, int newScale) {
      int before = inner;
      inner = newInner;
      scale = newScale;
      return before;
    }

    int put(boolean toLeft, int spot, int v) {
      int[] table = toLeft ? left : right;
      int before = table[spot];
      table[spot] = v;
      return before;
    }

    /** 100 times the edge, and the corner, of the first pair that is not as it should be; NONE. */
    int firstWrong(Figure figure) {
      int sides = figure.hull().size();
      for (int i = 0; i < sides; i++) {
        for (int j = 0; j < sides; j++) {
          if (product(i, j) != scale * figure.gap(i, j)) {
            return 100 * i + j;
          }
        }
      }
      return NONE;
    }

    private int product(int row, int column) {
      int sum = 0;
      for (int k = 0; k < inner; k++) {
        sum += left[row * MOST_INNER + k] * right[k * MOST_POINTS + column];
      }
      return sum;
    }
  }

  /** The walls of the body, and which of them are on; sets of walls are told by their bits. */
  private static final class Walls {
    private final int[] a = new int[MOST_WALLS];
    private final int[] b = new int[MOST_WALLS];
    private final int[] c = new int[MOST_WALLS];
    private final int[] d = new int[MOST_WALLS];
    private int size;
    private int onSet;

    int size() {
      return size;
    }

    int onSet() {
      return onSet;
    }

    boolean has(int wall) {
      return wall >= 0 && wall < size;
    }

    boolean isOn(int wall) {
      return (onSet >> wall & 1) == 1;
    }

    int part(int wall, int what) {
      switch (what) {
        case 0:
          return a[wall];
        case 1:
          return b[wall];
        case 2:
          return c[wall];
        case 3:
          return d[wall];
        default:
          return isOn(wall) ? 1 : 0;
      }
    }

    int add(int wa, int wb, int wc, int wd) {
      int number = size;
      a[number] = wa;
      b[number] = wb;
      c[number] = wc;
      d[number] = wd;
      size++;
      turn(number, true);
      return number;
    }

    int push(int wall, int wd) {
      int before = d[wall];
      d[wall] = wd;
      return before;
    }

    int turn(int wall, boolean toOn) {
      int before = isOn(wall) ? 1 : 0;
      onSet = toOn ? onSet | 1 << wall : onSet & ~(1 << wall);
      return before;
    }

    /** How far (x, y, z) / w is beyond a wall, w times; a step's w is 0. */
    int excess(int wall, int x, int y, int z, int w) {
      return a[wall] * x + b[wall] * y + c[wall] * z - d[wall] * w;
    }
  }

  /**
   * Where threes of walls meet, and the steps along which twos do, of all walls whether on
   * or not: with what breaks them kept beside, any set of walls is judged by its bits.
   */
  private static final class Meets {
    private final int[] x = new int[MOST_MEETS];
    private final int[] y = new int[MOST_MEETS];
    private final int[] z = new int[MOST_MEETS];
    private final int[] w = new int[MOST_MEETS];
    private final int[] makers = new int[MOST_MEETS];
    private final int[] breakers = new int[MOST_MEETS];
    private final int[] touchers = new int[MOST_MEETS];
    private final int[] rayBreakers = new int[MOST_RAYS];
    private int size;
    private int rays;

    void find(Walls walls) {
      size = 0;
      rays = 0;
      for (int i = 0; i < walls.size; i++) {
        for (int j = i + 1; j < walls.size; j++) {
          addRays(walls, i, j);
          for (int k = j + 1; k < walls.size; k++) {
            addMeet(walls, i, j, k);
          }
        }
      }
    }

    private void addMeet(Walls walls, int i, int j, int k) {
      int below = volume(walls.a, walls.b, walls.c, i, j, k);
      if (below == 0 || size >= MOST_MEETS) {
        return;
      }
      int sign = below > 0 ? 1 : -1;
      x[size] = sign * volume(walls.d, walls.b, walls.c, i, j, k);
      y[size] = sign * volume(walls.a, walls.d, walls.c, i, j, k);
      z[size] = sign * volume(walls.a, walls.b, walls.d, i, j, k);
      w[size] = sign * below;
      makers[size] = 1 << i | 1 << j | 1 << k;
      mark(walls);
      size++;
    }

    /** The determinant of three columns at three walls. */
    private static int volume(int[] p, int[] q, int[] r, int i, int j, int k) {
      return p[i] * (q[j] * r[k] - q[k] * r[j])
          - p[j] * (q[i] * r[k] - q[k] * r[i])
          + p[k] * (q[i] * r[j] - q[j] * r[i]);
    }

    /** Notes which walls the newest meet breaks, and which it touches. */
    private void mark(Walls walls) {
      breakers[size] = 0;
      touchers[size] = 0;
      for (int n = 0; n < walls.size; n++) {
        int excess = walls.excess(n, x[size], y[size], z[size], w[size]);
        if (excess > 0) {
          breakers[size] |= 1 << n;
        } else if (excess == 0) {
          touchers[size] |= 1 << n;
        }
      }
    }

    private void addRays(Walls walls, int i, int j) {
      int stepX = walls.b[i] * walls.c[j] - walls.c[i] * walls.b[j];
      int stepY = walls.c[i] * walls.a[j] - walls.a[i] * walls.c[j];
      int stepZ = walls.a[i] * walls.b[j] - walls.b[i] * walls.a[j];
      if (stepX == 0 && stepY == 0 && stepZ == 0) {
        return;
      }
      addRay(walls, stepX, stepY, stepZ);
      addRay(walls, -stepX, -stepY, -stepZ);
    }

    private void addRay(Walls walls, int stepX, int stepY, int stepZ) {
      if (rays >= MOST_RAYS) {
        return;
      }
      int breaking = 0;
      for (int n = 0; n < walls.size; n++) {
        if (walls.excess(n, stepX, stepY, stepZ, 0) > 0) {
          breaking |= 1 << n;
        }
      }
      rayBreakers[rays] = breaking;
      rays++;
    }

    int size() {
      return size;
    }

    int xOf(int meet) {
      return x[meet];
    }

    int yOf(int meet) {
      return y[meet];
    }

    int zOf(int meet) {
      return z[meet];
    }

    int wOf(int meet) {
      return w[meet];
    }

    int touchersOf(int meet) {
      return touchers[meet];
    }

    boolean isBroken(int meet, int wall) {
      return (breakers[meet] >> wall & 1) == 1;
    }

    boolean isMadeBy(int meet, int set) {
      return (makers[meet] & ~set) == 0;
    }

    /** Whether the meet is a vertex of the body with just these walls. */
    boolean isVertex(int meet, int set) {
      return isMadeBy(meet, set) && (breakers[meet] & set) == 0;
    }

    /** Whether a step goes on without end in a body with just these walls that has a vertex. */
    boolean isEndless(int set) {
      // Such a body has no whole line in it: if it is endless, then along a line of two of its walls.
      for (int i = 0; i < rays; i++) {
        if ((rayBreakers[i] & set) == 0) {
          return true;
        }
      }
      return false;
    }

    /** Below 0, 0, above 0: meet m is before meet n by x, then y, then z, at one place with it, behind it. */
    int order(int m, int n) {
      int byX = Long.compare((long) x[m] * w[n], (long) x[n] * w[m]);
      if (byX != 0) {
        return byX;
      }
      int byY = Long.compare((long) y[m] * w[n], (long) y[n] * w[m]);
      return byY != 0 ? byY : Long.compare((long) z[m] * w[n], (long) z[n] * w[m]);
    }
  }

  /** The body of the walls that are on: its vertices and its shadow, found anew at every change. */
  private static final class Body {
    private final Walls walls = new Walls();
    private final Meets meets = new Meets();
    private final int[] vertexMeets = new int[MOST_MEETS];
    private final Outline outline = new Outline(MOST_MEETS);
    private int size;
    private boolean isSound;

    Walls walls() {
      return walls;
    }

    Meets meets() {
      return meets;
    }

    Outline outline() {
      return outline;
    }

    int size() {
      return size;
    }

    boolean isSound() {
      return isSound;
    }

    boolean has(int vertex) {
      return vertex >= 0 && vertex < size;
    }

    int build(int a, int b, int c, int d) {
      int number = walls.add(a, b, c, d);
      meets.find(walls);
      carve();
      return number;
    }

    int push(int wall, int d) {
      int before = walls.push(wall, d);
      meets.find(walls);
      carve();
      return before;
    }

    int turn(int wall, boolean toOn) {
      int before = walls.turn(wall, toOn);
      carve();
      return before;
    }

    private void carve() {
      size = 0;
      for (int m = 0; m < meets.size(); m++) {
        if (meets.isVertex(m, walls.onSet())) {
          addVertex(m);
        }
      }
      isSound = size > 0 && !meets.isEndless(walls.onSet());
      outline.empty();
      for (int i = 0; i < size; i++) {
        int m = vertexMeets[i];
        outline.add(meets.xOf(m), meets.yOf(m), meets.wOf(m));
      }
      outline.wrap();
    }

    private void addVertex(int m) {
      int spot = size;
      while (spot > 0 && meets.order(vertexMeets[spot - 1], m) > 0) {
        spot--;
      }
      if (spot > 0 && meets.order(vertexMeets[spot - 1], m) == 0) {
        return;
      }
      for (int i = size; i > spot; i--) {
        vertexMeets[i] = vertexMeets[i - 1];
      }
      vertexMeets[spot] = m;
      size++;
    }

    long coordinate(int vertex, int what, boolean upper) {
      int m = vertexMeets[vertex];
      int over = what == 0 ? meets.xOf(m) : what == 1 ? meets.yOf(m) : meets.zOf(m);
      return told(over, meets.wOf(m), upper);
    }

    int tightAt(int vertex) {
      return meets.touchersOf(vertexMeets[vertex]) & walls.onSet();
    }

    int rimCount() {
      int rims = 0;
      for (int i = 0; i < size; i++) {
        for (int j = i + 1; j < size; j++) {
          if (isRim(i, j)) {
            rims++;
          }
        }
      }
      return rims;
    }

    private boolean isRim(int i, int j) {
      // Two vertices alone on what is tight at both end an edge, and two walls cross along an edge:
      // in a sound body the steps need no look of their own.
      int common = tightAt(i) & tightAt(j);
      for (int k = 0; k < size; k++) {
        if (k != i && k != j && (common & ~tightAt(k)) == 0) {
          return false;
        }
      }
      return true;
    }

    /** Whether a wall is idle in a body that is sound. */
    boolean isIdle(int wall) {
      if (!walls.isOn(wall)) {
        return false;
      }
      // Two of the others cross at least: without a vertex they would be endless along that line.
      int others = walls.onSet() & ~(1 << wall);
      if (meets.isEndless(others)) {
        return false;
      }
      // A body with an end whose vertices all hold at the wall holds at it everywhere,
      // so it is the body with the wall, and its vertices are the same.
      for (int m = 0; m < meets.size(); m++) {
        if (meets.isVertex(m, others) && meets.isBroken(m, wall)) {
          return false;
        }
      }
      return true;
    }

    /** The first vertex at which p x + q y + s z is at most; the body is sound. */
    int firstBest(int p, int q, int s) {
      int best = 0;
      for (int i = 1; i < size; i++) {
        long mine = (long) over(i, p, q, s) * meets.wOf(vertexMeets[best]);
        long its = (long) over(best, p, q, s) * meets.wOf(vertexMeets[i]);
        if (mine > its) {
          best = i;
        }
      }
      return best;
    }

    long valueAt(int vertex, int p, int q, int s, boolean upper) {
      return told(over(vertex, p, q, s), meets.wOf(vertexMeets[vertex]), upper);
    }

    private int over(int vertex, int p, int q, int s) {
      int m = vertexMeets[vertex];
      return p * meets.xOf(m) + q * meets.yOf(m) + s * meets.zOf(m);
    }
  }

  /** The fewest walls whose body has the figure for its shadow; kept until something changes. */
  private static final class Choice {
    private static final int OUT = -1;

    /** For each meet: OUT of the figure, or the bit of the corner that it falls on, or 0. */
    private final int[] falls = new int[MOST_MEETS];
    private boolean known;
    private int chosen;

    void forget() {
      known = false;
    }

    /** The set of these walls; 0 if there are none such. */
    int walls(Figure figure, Body body) {
      if (!known) {
        chosen = figure.isFlat() ? 0 : search(figure.hull(), body.meets(), body.walls().onSet());
        known = true;
      }
      return chosen;
    }

    private int search(Outline hull, Meets meets, int onSet) {
      int all = (1 << hull.size()) - 1;
      if (castAll(hull, meets, onSet) != all) {
        return 0;
      }
      int best = 0;
      // With wall 0 as the highest bit, of as many walls the first by walls come first downwards.
      for (int mirrored = (1 << MOST_WALLS) - 1; mirrored > 0; mirrored--) {
        if (best == 0 || Integer.bitCount(mirrored) < Integer.bitCount(best)) {
          int set = mirror(mirrored);
          best = (set & ~onSet) == 0 && shows(meets, set, all) ? set : best;
        }
      }
      return best;
    }

    private static int mirror(int set) {
      int mirrored = 0;
      for (int wall = 0; wall < MOST_WALLS; wall++) {
        mirrored |= (set >> wall & 1) << MOST_WALLS - 1 - wall;
      }
      return mirrored;
    }

    /** Notes where all meets fall, and tells the corners on which meets of walls that are on do. */
    private int castAll(Outline hull, Meets meets, int onSet) {
      int hit = 0;
      for (int m = 0; m < meets.size(); m++) {
        falls[m] = cast(hull, meets.xOf(m), meets.yOf(m), meets.wOf(m));
        if (falls[m] != OUT && meets.isMadeBy(m, onSet)) {
          hit |= falls[m];
        }
      }
      return hit;
    }

    private static int cast(Outline hull, int x, int y, int w) {
      if (!hull.holds(x, y, w)) {
        return OUT;
      }
      int corner = hull.cornerAt(x, y, w);
      return corner < 0 ? 0 : 1 << corner;
    }

    /** Whether the body of just these walls has all corners in its shadow and nothing outside of the figure. */
    private boolean shows(Meets meets, int set, int all) {
      int hit = 0;
      for (int m = 0; m < meets.size(); m++) {
        if (meets.isVertex(m, set)) {
          if (falls[m] == OUT) {
            return false;
          }
          hit |= falls[m];
        }
      }
      return hit == all && !meets.isEndless(set);
    }
  }
}
