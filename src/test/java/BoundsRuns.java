/** What the document says of the bounds. */
final class BoundsRuns {
  /** Eight walls, none of them idle, whose shadow has twelve corners. */
  static final String EIGHT_FOR_TWELVE = """
      walls 0 0 1 6, 1 0 1 8, -1 0 1 8, -3 0 1 18, 0 0 -1 6, 0 1 -1 8, 0 -1 -1 8, 0 -3 -1 18
      """;
  static final String TWELVE = """
      points -8 -2, -7 -5, -5 -7, -2 -8, 2 -8, 11 -5, 14 -2, 14 2, 2 14, -2 14, -5 11, -8 2
      """;
  /** Six walls whose shadow has eight corners. */
  static final String SIX_FOR_EIGHT = """
      walls 0 0 1 6, 1 0 1 8, -1 0 1 8, 0 0 -1 6, 0 1 -1 8, 0 -1 -1 8
      """;
  static final String EIGHT = """
      points -14 -2, -2 -14, 2 -14, 14 -2, 14 2, 2 14, -2 14, -14 2
      """;
  /** The walls a x + b y <= c of these eight corners. */
  private static final int[][] EIGHT_WALLS = {
      {-1, -1, 16}, {0, -1, 14}, {1, -1, 16}, {1, 0, 14}, {1, 1, 16}, {0, 1, 14}, {-1, 1, 16}, {-1, 0, 14}};
  private static final int[][] EIGHT_CORNERS = {
      {-14, -2}, {-2, -14}, {2, -14}, {14, -2}, {14, 2}, {2, 14}, {-2, 14}, {-14, 2}};
  private static final String HEXAGON = """
      points 1 0, 1 1, 0 1, -1 0, -1 -1, 0 -1
      """;

  private BoundsRuns() {
  }

  static void play(Script s) {
    openPairs(s);
    numbers(s);
    atMostEight(s);
    calls(s);
    high(s);
  }

  private static void openPairs(Script s) {
    s.says("Terms", "A PAIR of an EDGE and a CORNER is OPEN, if its SLACK is above 0.", """
        points 0 0, 1 0, 0 1; gaps 0 0 1, 1 0 0, 0 1 0; open() 3
        new                                     # CORNERS on lines along each other's EDGES are still none of theirs
        points -1 -1, 1 -1, 1 1, -1 1; gaps 0 0 2 2, 2 0 0 2, 2 2 0 0, 0 2 2 0; open() 8
        """);
    s.says("Promise 10", "How many PAIRS are OPEN.", """
        points -50 -1, 50 0, 0 -40; open() 3
        points 0 50; open() 8
        points -40 -20; open() 15
        points 30 40; open() 24
        points 40 -22; open() 35
        points -30 45; open() 48
        points -49 -5; open() 63
        points 48 -8; open() 80
        points -20 -35; open() 99
        points 20 -36; open() 120
        """);
    s.says("Promise 10", "STATE: it is FLAT.", """
        open() STATE; points 1 1; open() STATE; points 2 2; open() STATE; points 3 3, 1 1; open() STATE
        points 0 1; open() 3; clear() 5; open() STATE
        """);
  }

  private static void numbers(Script s) {
    s.says("Terms", "A BLOCK: some EDGES and some CORNERS, all PAIRS of which are OPEN. THE COVER: the fewest BLOCKS in which all OPEN PAIRS are.", """
        points 0 0, 1 0, 0 1; cover() 3         # three OPEN PAIRS, no two of them in one BLOCK
        new
        points -1 -1, 1 -1, 1 1, -1 1; cover() 4
        """);
    s.says("Terms", "THE FOOLS: the most OPEN PAIRS of any two of which (i, j), (k, l) one of (i, l), (k, j) is not OPEN.", """
        points 0 0, 1 0, 0 1; fools() 3         # all OPEN PAIRS that there are
        new
        points -50 -1, 50 0, 0 -40, 0 50, -40 -20; fools() 5
        points 30 40; fools() 4                 # fewer for more CORNERS
        """);
    s.says("Terms", "THE LOG: the least k so that 2 to the k is no less than CORNERS, EDGES and 2 together.", """
        points -50 -1, 50 0, 0 -40; log() 3     # 8 together: just 2 to the 3
        points 0 50; log() 4                    # 10
        points -40 -20, 30 40, 40 -22; log() 4  # 16: just 2 to the 4
        points -30 45; log() 5                  # 18
        """);
    s.says("Terms", "LOW: the greatest of 3, THE COVER, THE LOG.", """
        points -50 -1, 50 0, 0 -40; cover() 3; log() 3; low() 3
        points 0 50; cover() 4; log() 4; low() 4
        points -40 -20; cover() 5; log() 4; low() 5
        points 30 40; cover() 5; log() 4; low() 5
        points 40 -22; cover() 6; log() 4; low() 6
        points -30 45; cover() 6; log() 5; low() 6
        """);
  }

  private static void atMostEight(Script s) {
    s.says("Terms", "(All of these for 8 CORNERS at most.)", EIGHT + """
        corners() 8; cover() 6; fools() 4; log() 5; low() 6
        points 0 15; corners() 9; cover() STATE; fools() STATE; log() STATE; low() STATE; open() 63; high() 9
        move(8, 0, 14) 1; corners() 8; cover() 6; fools() 4; log() 5; low() 6      # nine POINTS, eight CORNERS
        points 0 0, 1 1, 14 2; count(0) 12; cover() 6; fools() 4; log() 5; low() 6
        """);
  }

  private static void calls(Script s) {
    String eightAndNine = EIGHT + "%1$s %2$s; points 0 15; corners() 9; %1$s STATE; move(8, 0, 0) 1; %1$s %2$s\n";
    String upTo = """
        new
        %1$s STATE; points -50 -1; %1$s STATE; points 50 0; %1$s STATE; points 0 0; %1$s %2$s
        move(2, 0, -40) 1; %1$s %2$s
        points 0 50; %1$s %3$s; points -40 -20; %1$s %4$s; points 30 40; %1$s %5$s; points 40 -22; %1$s %6$s
        points -30 45; %1$s %7$s; points -49 -5; %1$s STATE; points 48 -8; %1$s STATE; points -20 -35; %1$s STATE
        points 20 -36; corners() 12; %1$s STATE; clear() 12; %1$s STATE
        """;
    String asCover = "STATE: as cover().";
    s.says("Promise 11", "THE COVER.", eightAndNine.formatted("cover()", "6"));
    s.says("Promise 11", "STATE: it is FLAT, or has more than 8 CORNERS.", upTo.formatted("cover()", "3", "4", "5", "5", "6", "6"));
    s.says("Promise 12", "THE FOOLS.", eightAndNine.formatted("fools()", "4"));
    s.says("Promise 12", asCover, upTo.formatted("fools()", "3", "4", "5", "4", "4", "4"));
    s.says("Promise 13", "THE LOG.", eightAndNine.formatted("log()", "5"));
    s.says("Promise 13", asCover, upTo.formatted("log()", "3", "4", "4", "4", "4", "5"));
    s.says("Promise 14", "LOW.", eightAndNine.formatted("low()", "6"));
    s.says("Promise 14", asCover, upTo.formatted("low()", "3", "4", "5", "5", "6", "6"));
  }

  private static void high(Script s) {
    s.says("Terms", "HIGH: the least of: how many CORNERS THE FIGURE has; r, if FACTORS HOLD; how many WALLS THE FEWEST are, if there are such.",
        EIGHT + """
        high() 8                                # neither FACTORS nor WALLS
        """ + SIX_FOR_EIGHT + """
        seen() 1; chosen 0 1 2 3 4 5; high() 6  # WALLS
        on(5, false) 1; chosen none; high() 8   # no such WALLS
        """ + "new\n" + EIGHT + "factors(8, 1) 1\n" + slackTable() + """
        hold() 1; high() 8                      # r, as many as CORNERS
        """ + SIX_FOR_EIGHT + """
        high() 6                                # the FACTORS HOLD, but the WALLS are fewer
        """ + "new\n" + HEXAGON + "factors(5, 1) 1\n" + fiveTable() + """
        hold() 1; high() 5                      # r
        walls 1 0 0 1, -1 0 0 1, 0 1 0 1, 0 -1 0 1, 1 -1 0 1, -1 1 0 1, 0 0 1 1, 0 0 -1 1
        seen() 1; fewest() 8; high() 5          # r is less than the WALLS
        factors(4, 1) 5; hold() 0; high() 6     # r that does not HOLD is none; the WALLS are more than the CORNERS
        factors(5, 1) 4; high() 5; factors(6, 1) 5; high() 6; factors(8, 1) 6; high() 6
        """);
    s.says("Promise 15", "HIGH.", TWELVE + """
        corners() 12; high() 12; low() STATE
        """ + EIGHT_FOR_TWELVE + """
        seen() 1; chosen 0 1 2 3 4 5 6 7; high() 8
        walls 3 0 1 18, 0 3 -1 18; shadow() 16; seen() 0; chosen 0 1 2 3 4 5 6 7; high() 8
        """);
    s.says("Promise 15", "STATE: it is FLAT.", """
        high() STATE; points 1 1; high() STATE; points 2 2; high() STATE; points 3 3; high() STATE
        move(2, 3, 4) 1; high() 3; move(2, 4, 4) 1; high() STATE; clear() 3; high() STATE
        """);
  }

  /** The one table keeps what the other, the slack of the eight corners, has. */
  static String slackTable() {
    StringBuilder runs = new StringBuilder();
    for (int i = 0; i < 8; i++) {
      runs.append("entry(true, ").append(i).append(", ").append(i).append(", 1) 0\n");
      for (int j = 0; j < 8; j++) {
        int[] w = EIGHT_WALLS[i];
        int slack = w[2] - w[0] * EIGHT_CORNERS[j][0] - w[1] * EIGHT_CORNERS[j][1];
        runs.append("entry(false, ").append(i).append(", ").append(j).append(", ").append(slack).append(") 0\n");
      }
    }
    return runs.toString();
  }

  private static String fiveTable() {
    int[][] left = {
        {0, 1, 1, 0, 0}, {0, 0, 2, 1, 0}, {1, 0, 1, 0, 0}, {1, 0, 0, 0, 1}, {0, 0, 0, 1, 2}, {0, 1, 0, 0, 1}};
    int[][] right = {
        {2, 1, 0, 0, 0, 1}, {0, 0, 1, 2, 1, 0}, {0, 0, 0, 0, 1, 1}, {1, 0, 0, 1, 0, 0}, {0, 1, 1, 0, 0, 0}};
    StringBuilder runs = new StringBuilder();
    for (int i = 0; i < 6; i++) {
      for (int k = 0; k < 5; k++) {
        runs.append("entry(true, ").append(i).append(", ").append(k).append(", ").append(left[i][k]).append(") 0\n");
        runs.append("entry(false, ").append(k).append(", ").append(i).append(", ").append(right[k][i]).append(") 0\n");
      }
    }
    return runs.toString();
  }
}
