import java.math.BigInteger;
import java.util.ArrayList;
import java.util.List;

/**
 * The document word by word, slowly and by other ways than the class: hulls by triangles,
 * places by elimination, ends by Fourier and Motzkin's way, the fewest by trying all sets.
 */
final class Plain {
  private static final int UNKNOWN = -900000001, OUTSIDE = -900000002, STATE = -900000003, FULL = -900000004, NONE = -900000009;

  /** A fraction in least terms: each fits 64 bits, what comes between them may not. */
  record Q(long over, long below) implements Comparable<Q> {
    private static final long SMALL = 1L << 30;
    static final Q ZERO = of(0);

    static Q of(long whole) {
      return new Q(whole, 1);
    }

    private static Q least(long over, long below) {
      long a = Math.abs(over);
      long b = Math.abs(below);
      while (b != 0) {
        long rest = a % b;
        a = b;
        b = rest;
      }
      long by = below < 0 ? -a : a;
      return new Q(over / by, below / by);
    }

    private static Q least(BigInteger over, BigInteger below) {
      BigInteger g = over.gcd(below);
      BigInteger by = below.signum() < 0 ? g.negate() : g;
      return new Q(over.divide(by).longValueExact(), below.divide(by).longValueExact());
    }

    private boolean isSmall() {
      return Math.abs(over) < SMALL && below < SMALL;
    }

    Q plus(Q q) {
      if (isSmall() && q.isSmall()) {
        return least(over * q.below + q.over * below, below * q.below);
      }
      BigInteger one = BigInteger.valueOf(over).multiply(BigInteger.valueOf(q.below));
      BigInteger other = BigInteger.valueOf(q.over).multiply(BigInteger.valueOf(below));
      return least(one.add(other), BigInteger.valueOf(below).multiply(BigInteger.valueOf(q.below)));
    }

    Q minus(Q q) {
      return plus(new Q(-q.over, q.below));
    }

    Q times(Q q) {
      if (isSmall() && q.isSmall()) {
        return least(over * q.over, below * q.below);
      }
      return least(BigInteger.valueOf(over).multiply(BigInteger.valueOf(q.over)), BigInteger.valueOf(below).multiply(BigInteger.valueOf(q.below)));
    }

    Q by(Q q) {
      return times(q.over < 0 ? new Q(-q.below, -q.over) : new Q(q.below, q.over));
    }

    int sign() {
      return Long.signum(over);
    }

    long told(boolean upper) {
      return upper ? over : below;
    }

    @Override
    public int compareTo(Q q) {
      return minus(q).sign();
    }
  }

  /** A place of the plane. */
  record Place(Q x, Q y) implements Comparable<Place> {
    @Override
    public int compareTo(Place p) {
      return x.compareTo(p.x) != 0 ? x.compareTo(p.x) : y.compareTo(p.y);
    }
  }

  /** A place of space. */
  record Spot(Q x, Q y, Q z) implements Comparable<Spot> {
    @Override
    public int compareTo(Spot p) {
      int c = new Place(x, y).compareTo(new Place(p.x, p.y));
      return c != 0 ? c : z.compareTo(p.z);
    }
  }

  private final List<int[]> points = new ArrayList<>();
  private final List<int[]> walls = new ArrayList<>();
  private int r = 1;
  private int scale = 1;
  private final int[][] left = new int[12][8];
  private final int[][] right = new int[8][12];

  // ---- hulls

  /** Above 0: c is on the left of the step from a to b. */
  private static int turn(Place a, Place b, Place c) {
    Q one = b.x.minus(a.x).times(c.y.minus(a.y));
    Q other = b.y.minus(a.y).times(c.x.minus(a.x));
    return one.minus(other).sign();
  }

  private static boolean between(Place a, Place b, Place p) {
    Place least = a.compareTo(b) < 0 ? a : b;
    Place most = a.compareTo(b) < 0 ? b : a;
    return turn(a, b, p) == 0 && least.compareTo(p) <= 0 && p.compareTo(most) <= 0;
  }

  private static boolean inTriangle(Place a, Place b, Place c, Place p) {
    int round = turn(a, b, c);
    return round != 0 && turn(a, b, p) * round >= 0 && turn(b, c, p) * round >= 0 && turn(c, a, p) * round >= 0;
  }

  /** Whether p is one of these places, or on a line or in a triangle of them. */
  private static boolean among(List<Place> places, Place p) {
    for (int i = 0; i < places.size(); i++) {
      for (int j = 0; j <= i; j++) {
        if (between(places.get(i), places.get(j), p)) {
          return true;
        }
        for (int k = 0; k < j; k++) {
          if (inTriangle(places.get(i), places.get(j), places.get(k), p)) {
            return true;
          }
        }
      }
    }
    return false;
  }

  private static List<Place> cornersOf(List<Place> many) {
    List<Place> places = many.stream().distinct().sorted().toList();
    List<Place> found = new ArrayList<>();
    for (Place p : places) {
      if (!among(places.stream().filter(q -> !q.equals(p)).toList(), p)) {
        found.add(p);
      }
    }
    if (found.size() < 3) {
      return found;
    }
    Place first = found.get(0);
    List<Place> rest = new ArrayList<>(found.subList(1, found.size()));
    rest.sort((p, q) -> -turn(first, p, q));
    rest.add(0, first);
    return rest;
  }

  private List<Place> figure;

  private List<Place> figure() {
    if (figure == null) {
      List<Place> places = new ArrayList<>();
      for (int[] p : points) {
        places.add(new Place(Q.of(p[0]), Q.of(p[1])));
      }
      figure = cornersOf(places);
    }
    return figure;
  }

  private boolean flat() {
    return figure().size() < 3;
  }

  // ---- the figure

  private static boolean in(int v, int reach) {
    return -reach <= v && v <= reach;
  }

  int point(int x, int y) {
    if (!in(x, 50) || !in(y, 50)) {
      return OUTSIDE;
    }
    if (points.size() == 12) {
      return FULL;
    }
    points.add(new int[] {x, y});
    figure = null;
    return points.size() - 1;
  }

  int move(int point, int x, int y) {
    if (point < 0 || point >= points.size()) {
      return UNKNOWN;
    }
    if (!in(x, 50) || !in(y, 50)) {
      return OUTSIDE;
    }
    points.set(point, new int[] {x, y});
    figure = null;
    return 1;
  }

  int clear() {
    int were = points.size();
    points.clear();
    figure = null;
    return were;
  }

  int corners() {
    return figure().size();
  }

  private boolean isCorner(int corner) {
    return corner >= 0 && corner < corners();
  }

  int corner(int corner, boolean y) {
    if (!isCorner(corner)) {
      return UNKNOWN;
    }
    Place p = figure().get(corner);
    return (int) (y ? p.y : p.x).told(true);
  }

  private int[] wallOf(int edge) {
    int next = (edge + 1) % corners();
    int dx = corner(next, false) - corner(edge, false);
    int dy = corner(next, true) - corner(edge, true);
    int g = 101;
    while (dx % g != 0 || dy % g != 0) {
      g--;
    }
    int a = dy / g;
    int b = -dx / g;
    return new int[] {a, b, a * corner(next, false) + b * corner(next, true)};
  }

  int wallOf(int edge, int what) {
    if (!isCorner(edge)) {
      return UNKNOWN;
    }
    if (flat()) {
      return STATE;
    }
    return what < 0 || what > 2 ? OUTSIDE : wallOf(edge)[what];
  }

  int slack(int edge, int corner) {
    if (!isCorner(edge) || !isCorner(corner)) {
      return UNKNOWN;
    }
    if (flat()) {
      return STATE;
    }
    int[] w = wallOf(edge);
    return w[2] - w[0] * corner(corner, false) - w[1] * corner(corner, true);
  }

  int area() {
    Q twice = Q.ZERO;
    for (int i = 2; i < corners(); i++) {
      Place a = figure().get(0);
      Place b = figure().get(i - 1);
      Place c = figure().get(i);
      twice = twice.plus(b.x.minus(a.x).times(c.y.minus(a.y))).minus(b.y.minus(a.y).times(c.x.minus(a.x)));
    }
    return (int) twice.told(true);
  }

  // ---- bounds

  private boolean[][] openTable() {
    int n = corners();
    boolean[][] open = new boolean[n][n];
    for (int i = 0; i < n; i++) {
      for (int j = 0; j < n; j++) {
        open[i][j] = slack(i, j) > 0;
      }
    }
    return open;
  }

  int open() {
    if (flat()) {
      return STATE;
    }
    int pairs = 0;
    for (boolean[] row : openTable()) {
      for (boolean open : row) {
        pairs += open ? 1 : 0;
      }
    }
    return pairs;
  }

  int cover() {
    return flat() || corners() > 8 ? STATE : Searches.cover(openTable());
  }

  int fools() {
    return flat() || corners() > 8 ? STATE : Searches.fools(openTable());
  }

  int log() {
    if (flat() || corners() > 8) {
      return STATE;
    }
    int k = 0;
    for (int power = 1; power < corners() + corners() + 2; power *= 2) {
      k++;
    }
    return k;
  }

  int low() {
    return flat() || corners() > 8 ? STATE : Math.max(3, Math.max(cover(), log()));
  }

  int high() {
    if (flat()) {
      return STATE;
    }
    int high = corners();
    if (hold() == 1) {
      high = Math.min(high, r);
    }
    if (fewest() != NONE) {
      high = Math.min(high, fewest());
    }
    return high;
  }

  // ---- factors

  int factors(int newR, int newScale) {
    if (newR < 1 || newR > 8 || newScale < 1 || newScale > 999) {
      return OUTSIDE;
    }
    int was = r;
    r = newR;
    scale = newScale;
    return was;
  }

  int entry(boolean ofEdges, int row, int column, int v) {
    int[][] table = ofEdges ? left : right;
    if (row < 0 || row >= table.length || column < 0 || column >= table[0].length) {
      return UNKNOWN;
    }
    if (v < 0 || v > 9999) {
      return OUTSIDE;
    }
    int was = table[row][column];
    table[row][column] = v;
    return was;
  }

  int hold() {
    return flat() ? STATE : wrong() == NONE ? 1 : 0;
  }

  int wrong() {
    if (flat()) {
      return STATE;
    }
    for (int i = 0; i < corners(); i++) {
      for (int j = 0; j < corners(); j++) {
        long sum = 0;
        for (int k = 0; k < r; k++) {
          sum += (long) left[i][k] * right[k][j];
        }
        if (sum != (long) scale * slack(i, j)) {
          return 100 * i + j;
        }
      }
    }
    return NONE;
  }

  // ---- the body

  int wall(int a, int b, int c, int d) {
    if (!in(a, 9) || !in(b, 9) || !in(c, 9) || !in(d, 99) || a == 0 && b == 0 && c == 0) {
      return OUTSIDE;
    }
    if (walls.size() == 10) {
      return FULL;
    }
    walls.add(new int[] {a, b, c, d, 1});
    body = null;
    return walls.size() - 1;
  }

  private boolean isWall(int wall) {
    return wall >= 0 && wall < walls.size();
  }

  int shift(int wall, int d) {
    if (!isWall(wall)) {
      return UNKNOWN;
    }
    if (!in(d, 99)) {
      return OUTSIDE;
    }
    int was = walls.get(wall)[3];
    walls.get(wall)[3] = d;
    body = null;
    return was;
  }

  int on(int wall, boolean on) {
    if (!isWall(wall)) {
      return UNKNOWN;
    }
    int was = walls.get(wall)[4];
    walls.get(wall)[4] = on ? 1 : 0;
    body = null;
    return was;
  }

  int about(int wall, int what) {
    if (!isWall(wall)) {
      return UNKNOWN;
    }
    return what < 0 || what > 4 ? OUTSIDE : walls.get(wall)[what];
  }

  /** A body of some walls: its vertices, whether it is sound, its shadow. */
  private record Built(List<Spot> spots, boolean sound, List<Place> shadow) {
  }

  private Built body;

  private Built body() {
    if (body == null) {
      body = built(ons());
    }
    return body;
  }

  private List<int[]> ons() {
    return walls.stream().filter(w -> w[4] == 1).toList();
  }

  private static Built built(List<int[]> set) {
    List<Spot> spots = spotsOf(set);
    boolean sound = !spots.isEmpty() && !endless(set);
    List<Place> places = new ArrayList<>();
    for (Spot s : spots) {
      places.add(new Place(s.x, s.y));
    }
    return new Built(spots, sound, sound ? cornersOf(places) : List.of());
  }

  private static List<Spot> spotsOf(List<int[]> set) {
    List<Spot> spots = new ArrayList<>();
    for (int i = 0; i < set.size(); i++) {
      for (int j = 0; j < i; j++) {
        for (int k = 0; k < j; k++) {
          Spot s = meet(set.get(i), set.get(j), set.get(k));
          if (s != null && !spots.contains(s) && set.stream().allMatch(w -> beyond(w, s) <= 0)) {
            spots.add(s);
          }
        }
      }
    }
    spots.sort(null);
    return spots;
  }

  private static int beyond(int[] w, Spot s) {
    return Q.of(w[0]).times(s.x).plus(Q.of(w[1]).times(s.y)).plus(Q.of(w[2]).times(s.z)).minus(Q.of(w[3])).sign();
  }

  /** Elimination; null if the three do not meet in one place. */
  private static Spot meet(int[]... three) {
    Q[][] m = new Q[3][4];
    for (int i = 0; i < 3; i++) {
      for (int k = 0; k < 4; k++) {
        m[i][k] = Q.of(three[i][k]);
      }
    }
    for (int k = 0; k < 3; k++) {
      int pivot = k;
      while (pivot < 3 && m[pivot][k].sign() == 0) {
        pivot++;
      }
      if (pivot == 3) {
        return null;
      }
      Q[] row = m[pivot];
      m[pivot] = m[k];
      m[k] = row;
      for (int i = 0; i < 3; i++) {
        if (i != k) {
          Q f = m[i][k].by(row[k]);
          for (int t = 0; t < 4; t++) {
            m[i][t] = m[i][t].minus(f.times(row[t]));
          }
        }
      }
    }
    return new Spot(m[0][3].by(m[0][0]), m[1][3].by(m[1][1]), m[2][3].by(m[2][2]));
  }

  /** A step without end has a part that is not 0; taken in another length that part is 1 or -1. */
  private static boolean endless(List<int[]> set) {
    for (int axis = 0; axis < 3; axis++) {
      for (int at = -1; at <= 1; at += 2) {
        List<long[]> rows = new ArrayList<>();
        for (int[] w : set) {
          rows.add(new long[] {w[(axis + 1) % 3], w[(axis + 2) % 3], -at * w[axis]});
        }
        if (possible(rows)) {
          return true;
        }
      }
    }
    return false;
  }

  /** Whether some u, v have p u + q v of t at most, for all rows p, q, t. */
  private static boolean possible(List<long[]> rows) {
    List<long[]> fewer = without(without(rows, 0), 1);
    return fewer.stream().allMatch(row -> row[2] >= 0);
  }

  private static List<long[]> without(List<long[]> rows, int k) {
    List<long[]> left = new ArrayList<>();
    for (long[] row : rows) {
      if (row[k] == 0) {
        left.add(row);
      }
      for (long[] other : rows) {
        if (row[k] > 0 && other[k] < 0) {
          long[] sum = new long[3];
          for (int i = 0; i < 3; i++) {
            sum[i] = Math.addExact(Math.multiplyExact(row[i], -other[k]), Math.multiplyExact(other[i], row[k]));
          }
          left.add(sum);
        }
      }
    }
    return left;
  }

  int sound() {
    return body().sound ? 1 : 0;
  }

  int vertices() {
    return body().spots.size();
  }

  private boolean isVertex(int vertex) {
    return vertex >= 0 && vertex < vertices();
  }

  long vertex(int vertex, int what, boolean upper) {
    if (!isVertex(vertex)) {
      return UNKNOWN;
    }
    if (what < 0 || what > 2) {
      return OUTSIDE;
    }
    Spot s = body().spots.get(vertex);
    return (what == 0 ? s.x : what == 1 ? s.y : s.z).told(upper);
  }

  int tight(int vertex) {
    if (!isVertex(vertex)) {
      return UNKNOWN;
    }
    int set = 0;
    for (int i = 0; i < walls.size(); i++) {
      if (walls.get(i)[4] == 1 && beyond(walls.get(i), body().spots.get(vertex)) == 0) {
        set |= 1 << i;
      }
    }
    return set;
  }

  private static boolean multiples(int[] v, int[] w) {
    return v[0] * w[1] == v[1] * w[0] && v[0] * w[2] == v[2] * w[0] && v[1] * w[2] == v[2] * w[1];
  }

  int rims() {
    if (!body().sound) {
      return STATE;
    }
    int rims = 0;
    for (int i = 0; i < vertices(); i++) {
      for (int j = 0; j < i; j++) {
        int common = tight(i) & tight(j);
        boolean two = false;
        for (int v = 0; v < walls.size(); v++) {
          for (int w = 0; w < v; w++) {
            two |= (common >> v & common >> w & 1) == 1 && !multiples(walls.get(v), walls.get(w));
          }
        }
        boolean other = false;
        for (int k = 0; k < vertices(); k++) {
          other |= k != i && k != j && (tight(k) & common) == common;
        }
        rims += two && !other ? 1 : 0;
      }
    }
    return rims;
  }

  int idle(int wall) {
    if (!isWall(wall)) {
      return UNKNOWN;
    }
    if (!body().sound) {
      return STATE;
    }
    if (walls.get(wall)[4] == 0) {
      return 0;
    }
    List<int[]> others = ons().stream().filter(w -> w != walls.get(wall)).toList();
    Built without = built(others);
    return without.sound && without.spots.equals(body().spots) ? 1 : 0;
  }

  // ---- the shadow

  int shadow() {
    return body().sound ? body().shadow.size() : STATE;
  }

  long shadowAt(int corner, boolean y, boolean upper) {
    if (!body().sound) {
      return STATE;
    }
    if (corner < 0 || corner >= body().shadow.size()) {
      return UNKNOWN;
    }
    Place p = body().shadow.get(corner);
    return (y ? p.y : p.x).told(upper);
  }

  int seen() {
    return !body().sound ? STATE : !flat() && body().shadow.equals(figure()) ? 1 : 0;
  }

  int missed() {
    return !body().sound ? STATE : (int) figure().stream().filter(p -> !among(body().shadow, p)).count();
  }

  int beyond() {
    return !body().sound || points.isEmpty() ? STATE : (int) body().shadow.stream().filter(p -> !among(figure(), p)).count();
  }

  private List<Integer> fewest;
  private List<Place> fewestFigure;
  private Built fewestBody;

  /** THE FEWEST, or null; found once for a figure and a body. */
  private List<Integer> fewestWalls() {
    if (fewestFigure != figure() || fewestBody != body()) {
      fewestFigure = figure();
      fewestBody = body();
      fewest = null;
      for (int k = 0; k <= walls.size() && fewest == null && !flat(); k++) {
        fewest = pick(new ArrayList<>(), 0, k);
      }
    }
    return fewest;
  }

  private List<Integer> pick(List<Integer> chosen, int from, int k) {
    if (k == 0) {
      List<int[]> set = chosen.stream().map(walls::get).toList();
      List<Spot> spots = spotsOf(set);
      // One spot outside of the figure, and it is not seen: most sets end here.
      if (spots.isEmpty() || spots.stream().anyMatch(s -> !among(figure(), new Place(s.x, s.y)))) {
        return null;
      }
      Built b = built(set);
      return b.sound && b.shadow.equals(figure()) ? chosen : null;
    }
    for (int w = from; w < walls.size(); w++) {
      if (walls.get(w)[4] == 1) {
        List<Integer> more = new ArrayList<>(chosen);
        more.add(w);
        List<Integer> found = pick(more, w + 1, k - 1);
        if (found != null) {
          return found;
        }
      }
    }
    return null;
  }

  int fewest() {
    List<Integer> found = fewestWalls();
    return found == null ? NONE : found.size();
  }

  int needed(int i) {
    List<Integer> found = fewestWalls();
    return found == null || i < 0 || i >= found.size() ? NONE : found.get(i);
  }

  private static Q cross(Place a, Place b) {
    return a.x.times(b.y).minus(a.y.times(b.x));
  }

  /** How often p goes into the outline: where the way to it crosses the rim, the other way round. */
  private static Q often(List<Place> outline, Place p) {
    for (int i = 0; i < outline.size(); i++) {
      Place a = outline.get(i);
      Place b = outline.get((i + 1) % outline.size());
      Place step = new Place(b.x.minus(a.x), b.y.minus(a.y));
      Q slant = cross(p, step);
      if (slant.sign() != 0) {
        Q along = cross(a, p).by(slant);
        Q way = cross(a, step).by(slant);
        if (along.sign() >= 0 && along.compareTo(Q.of(1)) <= 0 && way.sign() > 0) {
          return Q.of(1).by(way);
        }
      }
    }
    throw new IllegalStateException("no way out");
  }

  long blow(boolean upper) {
    if (!body().sound || points.isEmpty()) {
      return STATE;
    }
    List<Place> outline = body().shadow;
    Place origin = new Place(Q.ZERO, Q.ZERO);
    boolean rim = outline.size() < 3 || !among(outline, origin);
    for (int i = 0; !rim && i < outline.size(); i++) {
      rim = between(outline.get(i), outline.get((i + 1) % outline.size()), origin);
    }
    if (rim) {
      return STATE;
    }
    Q best = Q.ZERO;
    for (Place p : figure()) {
      if (!p.equals(origin)) {
        Q often = often(outline, p);
        best = often.compareTo(best) > 0 ? often : best;
      }
    }
    return best.told(upper);
  }

  // ---- programs

  int most(int p, int q) {
    if (!in(p, 99) || !in(q, 99)) {
      return OUTSIDE;
    }
    if (points.isEmpty()) {
      return STATE;
    }
    int best = Integer.MIN_VALUE;
    for (int i = 0; i < corners(); i++) {
      best = Math.max(best, p * corner(i, false) + q * corner(i, true));
    }
    return best;
  }

  private Q value(int vertex, int p, int q, int s) {
    Spot v = body().spots.get(vertex);
    return Q.of(p).times(v.x).plus(Q.of(q).times(v.y)).plus(Q.of(s).times(v.z));
  }

  long mostOf(int p, int q, int s, boolean upper) {
    int best = at(p, q, s);
    return best < 0 ? best : value(best, p, q, s).told(upper);
  }

  int at(int p, int q, int s) {
    if (!in(p, 99) || !in(q, 99) || !in(s, 99)) {
      return OUTSIDE;
    }
    if (!body().sound) {
      return STATE;
    }
    int best = 0;
    for (int i = 0; i < vertices(); i++) {
      if (value(i, p, q, s).compareTo(value(best, p, q, s)) > 0) {
        best = i;
      }
    }
    return best;
  }

  int count(int what) {
    int[] counts = {points.size(), walls.size(), ons().size(), r, scale};
    return what < 0 || what > 4 ? OUTSIDE : counts[what];
  }
}
