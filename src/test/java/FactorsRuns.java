/** What the document says of the tables that multiply to the slack. */
final class FactorsRuns {
  /** The slack of edge 0 is 4 at corner 2, of edge 1 at corner 0, of edge 2 at corner 1. */
  private static final String THREE = """
      points 0 0, 4 0, 0 4; gaps 0 0 4, 4 0 0, 0 4 0
      """;
  private static final String THREE_HOLD = THREE + """
      factors(3, 1) 1
      entry(true, 0, 0, 1) 0; entry(true, 1, 1, 1) 0; entry(true, 2, 2, 1) 0
      entry(false, 0, 2, 4) 0; entry(false, 1, 0, 4) 0; entry(false, 2, 1, 4) 0
      """;
  /** Twelve corners alike on all sides: by mirroring, eight numbers tell all slack. */
  private static final int[][] TWELVE = {
      {-10, 0}, {-9, -4}, {-4, -9}, {0, -10}, {4, -9}, {9, -4}, {10, 0}, {9, 4}, {4, 9}, {0, 10}, {-4, 9}, {-9, 4}};

  private FactorsRuns() {
  }

  static void play(Script s) {
    sizes(s);
    holding(s);
    calls(s);
    twelve(s);
  }

  private static void sizes(Script s) {
    s.says("Terms", "FACTORS: r (1 to 8), a SCALE (1 to 999), a table of EDGES 0 to 11 by r and one of r by CORNERS 0 to 11, entries 0 to 9999 (0 at first).", """
        factors(1, 1) 1; factors(8, 999) 1; factors(1, 999) 8; factors(8, 1) 1; count(3) 8; count(4) 1
        factors(0, 1) OUTSIDE; factors(9, 1) OUTSIDE; factors(1, 0) OUTSIDE; factors(1, 1000) OUTSIDE; count(3) 8; count(4) 1
        entry(true, 0, 0, 9999) 0; entry(true, 11, 0, 9998) 0; entry(true, 0, 7, 9997) 0; entry(true, 11, 7, 9996) 0
        entry(false, 0, 0, 9995) 0; entry(false, 7, 0, 9994) 0; entry(false, 0, 11, 9993) 0; entry(false, 7, 11, 9992) 0
        entry(true, 0, 0, 0) 9999; entry(true, 11, 0, 0) 9998; entry(true, 0, 7, 0) 9997; entry(true, 11, 7, 0) 9996
        entry(false, 0, 0, 0) 9995; entry(false, 7, 0, 0) 9994; entry(false, 0, 11, 0) 9993; entry(false, 7, 11, 0) 9992
        entry(true, 0, 0, 0) 0; entry(false, 7, 11, 0) 0
        entry(true, 0, 0, 10000) OUTSIDE; entry(true, 0, 0, -1) OUTSIDE; entry(false, 0, 0, 10000) OUTSIDE; entry(false, 0, 0, -1) OUTSIDE
        """ + "new\n" + allOf("0", "0"));
  }

  /** Every entry, set and told. */
  private static String allOf(String value, String was) {
    StringBuilder runs = new StringBuilder();
    for (int i = 0; i < 12; i++) {
      for (int k = 0; k < 8; k++) {
        runs.append("entry(true, " + i + ", " + k + ", " + value + ") " + was + "\n");
        runs.append("entry(false, " + k + ", " + i + ", " + value + ") " + was + "\n");
      }
    }
    return runs.toString();
  }

  private static void holding(Script s) {
    s.says("Terms", "THEY HOLD, if the sum of products of row i of the one and column j of the other is SCALE times the SLACK of EDGE i and CORNER j,",
        THREE + """
        hold() 0; factors(3, 1) 1; hold() 0     # noughts are not the SLACK
        """ + "new\n" + THREE_HOLD + """
        hold() 1; wrong() NONE
        factors(2, 1) 3; hold() 0; wrong() 201  # column 2, row 2 are there, but beyond r
        factors(8, 1) 2; hold() 1               # noughts more
        entry(true, 0, 7, 3) 0; hold() 1; entry(false, 7, 0, 1) 0; hold() 0; wrong() 0
        factors(7, 1) 8; hold() 1               # what is beyond r does not count
        factors(7, 2) 7; hold() 0; wrong() 2
        entry(true, 0, 0, 2) 1; entry(true, 1, 1, 2) 1; hold() 0; wrong() 201; entry(true, 2, 2, 2) 1; hold() 1
        factors(7, 999) 7; hold() 0
        entry(true, 0, 0, 999) 2; entry(true, 1, 1, 999) 2; entry(true, 2, 2, 999) 2; hold() 1
        factors(7, 998) 7; hold() 0; factors(3, 999) 7; hold() 1
        entry(false, 0, 2, 5) 4; hold() 0; entry(false, 0, 2, 3) 5; hold() 0; entry(false, 0, 2, 4) 3; hold() 1
        new                                     # the greatest SLACK and the greatest SCALE
        points -50 -50, 50 49, -50 50; gaps 0 0 10000, 10000 0 0, 0 100 0; factors(3, 999) 1
        entry(true, 0, 0, 9990) 0; entry(true, 1, 1, 9990) 0; entry(true, 2, 2, 9990) 0
        entry(false, 0, 2, 1000) 0; entry(false, 1, 0, 1000) 0; entry(false, 2, 1, 10) 0; hold() 1
        """);
    s.says("Terms", "for all EDGES and CORNERS that there are.", THREE_HOLD + """
        entry(true, 3, 0, 9999) 0; entry(true, 11, 2, 9999) 0; entry(false, 0, 3, 9999) 0; entry(false, 2, 11, 9999) 0
        hold() 1; wrong() NONE
        points 1 1; hold() 1                    # a POINT, no CORNER
        move(3, 4, 4) 1; corners() 4; gaps 0 0 4 4, 4 0 0 4, 4 4 0 0, 0 4 4 0; hold() 0; wrong() 3
        """ + "new\n" + BoundsRuns.EIGHT + "factors(8, 1) 1\n" + BoundsRuns.slackTable() + """
        hold() 1; wrong() NONE
        points 0 15; corners() 9; hold() 0      # the ninth CORNER
        move(8, 0, 14) 1; hold() 1
        """);
  }

  private static void calls(Script s) {
    s.says("Promise 16", "r and SCALE: r as it was.", """
        factors(2, 3) 1; count(3) 2; count(4) 3; factors(2, 4) 2; count(4) 4; factors(8, 999) 2; factors(1, 1) 8; factors(1, 1) 1
        """);
    s.says("Promise 16", "OUTSIDE.", """
        factors(3, 5) 1
        factors(0, 5) OUTSIDE; factors(9, 5) OUTSIDE; factors(-1, 5) OUTSIDE; factors(3, 0) OUTSIDE; factors(3, 1000) OUTSIDE; factors(3, -1) OUTSIDE
        factors(2147483647, 5) OUTSIDE; factors(-2147483648, 5) OUTSIDE; factors(3, 2147483647) OUTSIDE; factors(3, -2147483648) OUTSIDE
        factors(257, 5) OUTSIDE; factors(3, 65537) OUTSIDE; factors(0, 0) OUTSIDE; factors(9, 1000) OUTSIDE
        count(3) 3; count(4) 5
        """);
    s.says("Promise 17", "An entry of the table of EDGES (left = true; row 0 to 11, column 0 to 7), of that of CORNERS (row 0 to 7, column 0 to 11): what it was.", """
        entry(true, 11, 7, 9999) 0; entry(true, 11, 7, 1) 9999; entry(true, 11, 7, 0) 1; entry(true, 11, 7, 0) 0
        entry(false, 7, 11, 9999) 0; entry(false, 7, 11, 1) 9999; entry(false, 7, 11, 0) 1; entry(false, 7, 11, 0) 0
        entry(true, 5, 5, 7) 0; entry(false, 5, 5, 8) 0; entry(true, 5, 5, 7) 7; entry(false, 5, 5, 8) 8
        entry(true, 2, 6, 1) 0; entry(true, 6, 2, 2) 0; entry(false, 2, 6, 3) 0; entry(false, 6, 2, 4) 0
        entry(true, 2, 6, 0) 1; entry(true, 6, 2, 0) 2; entry(false, 2, 6, 0) 3; entry(false, 6, 2, 0) 4
        new                                     # beyond r too; and r leaves them as they are
        factors(1, 1) 1; entry(true, 3, 7, 44) 0; entry(false, 7, 3, 55) 0; factors(8, 2) 1; factors(1, 3) 8
        entry(true, 3, 7, 0) 44; entry(false, 7, 3, 0) 55
        """ + "new\n" + allOf("9999", "0") + allOf("0", "9999"));
    s.says("Promise 17", "UNKNOWN: row, column; OUTSIDE.", """
        entry(true, 12, 0, 1) UNKNOWN; entry(true, -1, 0, 1) UNKNOWN; entry(true, 0, 8, 1) UNKNOWN; entry(true, 0, -1, 1) UNKNOWN
        entry(false, 8, 0, 1) UNKNOWN; entry(false, -1, 0, 1) UNKNOWN; entry(false, 0, 12, 1) UNKNOWN; entry(false, 0, -1, 1) UNKNOWN
        entry(true, 0, 11, 1) UNKNOWN; entry(false, 11, 0, 1) UNKNOWN
        entry(true, 2147483647, 0, 1) UNKNOWN; entry(true, -2147483648, 0, 1) UNKNOWN; entry(true, 0, 2147483647, 1) UNKNOWN; entry(true, 0, -2147483648, 1) UNKNOWN
        entry(false, 2147483647, 0, 1) UNKNOWN; entry(false, -2147483648, 0, 1) UNKNOWN; entry(false, 0, 2147483647, 1) UNKNOWN; entry(false, 0, -2147483648, 1) UNKNOWN
        entry(true, 536870912, 0, 1) UNKNOWN; entry(false, 0, 536870912, 1) UNKNOWN           # 8 times as much wraps round to 0
        entry(true, 12, 0, 10000) UNKNOWN; entry(true, 0, 8, -1) UNKNOWN; entry(false, 8, 0, 10000) UNKNOWN; entry(false, 0, 12, -1) UNKNOWN
        entry(true, 11, 7, 10000) OUTSIDE; entry(true, 11, 7, -1) OUTSIDE; entry(false, 7, 11, 10000) OUTSIDE; entry(false, 7, 11, -1) OUTSIDE
        entry(true, 0, 0, 2147483647) OUTSIDE; entry(true, 0, 0, -2147483648) OUTSIDE; entry(true, 0, 0, 65536) OUTSIDE
        entry(true, 11, 7, 0) 0; entry(false, 7, 11, 0) 0; entry(true, 0, 0, 0) 0
        """);
    s.says("Promise 18", "Whether THEY HOLD: 1, 0.", THREE_HOLD + """
        hold() 1; entry(true, 2, 2, 2) 1; hold() 0; entry(true, 2, 2, 1) 2; hold() 1; move(2, 0, 5) 1; hold() 0
        """);
    s.says("Promise 18", "STATE: it is FLAT.", """
        hold() STATE; points 1 1; hold() STATE; points 2 2; hold() STATE; points 3 3; hold() STATE
        points 2 3; hold() 0; clear() 4; hold() STATE
        """);
    s.says("Promise 19", "The first PAIR (EDGE by EDGE, then CORNER by CORNER) at which they do not: 100 times the EDGE, and the CORNER; NONE.",
        THREE_HOLD + """
        wrong() NONE
        entry(true, 2, 2, 2) 1; wrong() 201     # too much
        entry(true, 2, 2, 0) 2; wrong() 201     # too little
        entry(true, 2, 0, 1) 0; wrong() 201; entry(true, 2, 1, 1) 0; wrong() 200; entry(true, 2, 2, 1) 0; wrong() 200
        entry(true, 1, 2, 1) 0; wrong() 101; entry(true, 0, 1, 1) 0; wrong() 0      # PAIR 0, 0
        """);
    s.says("Promise 19", "STATE: it is FLAT.", """
        wrong() STATE; points 1 1; wrong() STATE; points 2 2; wrong() STATE; points 3 3; wrong() STATE
        points 2 3; wrong() 2; clear() 4; wrong() STATE
        """);
  }

  private static void twelve(Script s) {
    s.says("Promise 19", "100 times the EDGE, and the CORNER; NONE.", twelveHold() + """
        corners() 12; hold() 1; wrong() NONE; high() 8
        entry(true, 11, 3, 1) 0; wrong() 1107; hold() 0; entry(true, 11, 3, 0) 1; wrong() NONE
        entry(false, 7, 11, 1) 0; wrong() 111; entry(false, 7, 11, 0) 1; wrong() NONE
        entry(false, 6, 11, 1) 0; wrong() 11; entry(false, 6, 11, 0) 1; wrong() NONE
        factors(7, 1) 8; wrong() 100; factors(8, 2) 7; wrong() 2
        """);
  }

  /** How much x falls short of its mirrored self, and so on; then what is left to the two walls of one corner. */
  private static int[] parts(int x, int y) {
    int w = Math.abs(x);
    int h = Math.abs(y);
    int most = Math.max(w, h);
    int least = Math.min(w, h);
    return new int[] {w - x, w + x, h - y, h + y, most - w, most - h, 40 - 4 * most - least, 13 - most - least};
  }

  /** A wall a x + b y <= c of this figure is one of two walls, mirrored over x, y, and x and y. */
  private static int[] shares(int a, int b) {
    int[] shares = new int[8];
    shares[a > 0 ? 0 : 1] = Math.abs(a);
    shares[b > 0 ? 2 : 3] = Math.abs(b);
    int lean = Math.abs(a) - Math.abs(b);
    shares[lean > 0 ? 4 : 5] = Math.abs(lean);
    shares[lean == 0 ? 7 : 6] = 1;
    return shares;
  }

  private static String twelveHold() {
    StringBuilder runs = new StringBuilder("factors(8, 1) 1\n");
    for (int i = 0; i < 12; i++) {
      int[] p = TWELVE[i];
      int[] q = TWELVE[(i + 1) % 12];
      boolean isSlant = Math.abs(q[1] - p[1]) == Math.abs(q[0] - p[0]);
      int by = isSlant ? 5 : 1;
      int[] right = parts(p[0], p[1]);
      int[] left = shares((q[1] - p[1]) / by, (p[0] - q[0]) / by);
      runs.append("point(" + p[0] + ", " + p[1] + ") " + i + "\n");
      for (int k = 0; k < 8; k++) {
        runs.append("entry(true, " + i + ", " + k + ", " + left[k] + ") 0\n");
        runs.append("entry(false, " + k + ", " + i + ", " + right[k] + ") 0\n");
      }
    }
    return runs.toString();
  }
}
