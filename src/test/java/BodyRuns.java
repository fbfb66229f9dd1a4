/** What the document says of the body. */
final class BodyRuns {
  /** Tight at its vertices: 42 26 38 22 41 25 37 21. */
  static final String CUBE = """
      walls 1 0 0 1, -1 0 0 1, 0 1 0 1, 0 -1 0 1, 0 0 1 1, 0 0 -1 1
      """;
  /** x, y, z of 0 and more, and 2x + 3y + 5z of 7 at most. */
  static final String TIP = """
      walls -1 0 0 0, 0 -1 0 0, 0 0 -1 0, 2 3 5 7
      """;
  /** Ten walls, sixteen vertices, and all of these are corners of the shadow. */
  static final String TEN = """
      walls 0 0 1 6, 1 0 1 8, -1 0 1 8, 3 0 1 18, -3 0 1 18, 0 0 -1 6, 0 1 -1 8, 0 -1 -1 8, 0 3 -1 18, 0 -3 -1 18
      """;
  /** Any three of ten walls meet in a place; none is idle. */
  private static final String ANY_THREE = """
      walls -3 3 2 10, -1 3 -3 11, 0 3 2 10, 3 2 -2 7, 0 3 1 9, 2 -2 3 8, -1 -2 3 7, -1 -2 -1 8, -3 -1 0 6, 1 -2 -3 9
      """;
  /** Flat: z is 2, a square. */
  private static final String SHEET = """
      walls 0 0 1 2, 0 0 -1 -2, 1 0 0 1, -1 0 0 1, 0 1 0 1, 0 -1 0 1
      """;
  /** 0, 0, 0 alone, and all ten walls go through it. */
  private static final String ONE_PLACE = """
      walls 1 0 0 0, -1 0 0 0, 0 1 0 0, 0 -1 0 0, 0 0 1 0, 0 0 -1 0, 1 1 1 0, -1 -1 -1 0, 9 0 0 0, 1 2 3 0
      """;
  /** Eight walls that meet at 0, 0, 4 over a floor. */
  private static final String TENT = """
      walls 4 0 9 36, -4 0 9 36, 0 4 9 36, 0 -4 9 36, 3 3 9 36, 3 -3 9 36, -3 3 9 36, -3 -3 9 36, 0 0 -1 0
      """;

  private BodyRuns() {
  }

  static void play(Script s) {
    walls(s);
    vertices(s);
    soundness(s);
    rims(s);
    idleWalls(s);
    callsOnWalls(s);
    callsOnTheBody(s);
    callsOnVertices(s);
    callsOnSoundBodies(s);
  }

  private static void walls(Script s) {
    s.says("Terms", "THE BODY is of WALLS 0, 1, .. (10 at most): a x + b y + c z <= d (a, b, c -9 to 9, not all 0; d -99 to 99), each ON or OFF.", """
        wall(9, 9, 9, 99) 0; wall(-9, -9, -9, -99) 1; wall(0, 0, 1, 0) 2; wall(0, -1, 0, 0) 3; wall(1, 0, 0, 0) 4
        wall(10, 0, 0, 1) OUTSIDE; wall(-10, 0, 0, 1) OUTSIDE; wall(0, 10, 0, 1) OUTSIDE; wall(0, -10, 0, 1) OUTSIDE
        wall(0, 0, 10, 1) OUTSIDE; wall(0, 0, -10, 1) OUTSIDE; wall(1, 0, 0, 100) OUTSIDE; wall(1, 0, 0, -100) OUTSIDE
        wall(0, 0, 0, 0) OUTSIDE; wall(0, 0, 0, 1) OUTSIDE; wall(0, 0, 0, -99) OUTSIDE; wall(0, 0, 0, 100) OUTSIDE
        count(1) 5; walls 1 1 1 1, 1 1 1 2, 1 1 1 3, 1 1 1 4; count(1) 9
        wall(0, 0, 0, 1) OUTSIDE; wall(9, -9, 9, -99) 9; wall(1, 1, 1, 5) FULL; count(1) 10
        about(9, 0) 9; about(9, 1) -9; about(9, 2) 9; about(9, 3) -99; about(9, 4) 1; about(10, 0) UNKNOWN
        """);
  }

  private static void vertices(Script s) {
    s.says("Terms", "A VERTEX is where three WALLS that are ON meet in one point, if all that are ON hold there;", """
        vertices() 0
        walls 1 0 0 1; vertices() 0             # one WALL
        walls 0 1 0 1; vertices() 0             # two
        walls 1 1 0 2; vertices() 0             # three that meet in a line
        walls 2 0 0 2; vertices() 0             # two of one plane
        walls -1 0 0 1; vertices() 0            # two that do not meet
        walls 0 0 1 5; spots -1 1 5, 1 1 5
        shift(2, 1) 2; spots -1 1 5, 0 1 5, 1 0 5     # 1, 1, 5 does not hold
        shift(2, -2) 1; spots -1 -1 5, 1 -3 5
        shift(5, 99) 5; spots -1 -1 99, 1 -3 99
        on(2, false) 1; spots -1 1 99, 1 1 99         # what is OFF breaks none
        on(5, false) 1; vertices() 0; vertex(0, 0) UNKNOWN      # and makes none
        on(5, true) 0; spots -1 1 99, 1 1 99
        new
        walls -1 0 0 0, 0 -1 0 0, 0 0 -1 0; spots 0 0 0
        walls 1 1 1 -1; vertices() 0; shift(3, 0) -1; spots 0 0 0; shift(3, 1) 0; spots 0 0 0, 0 0 1, 0 1 0, 1 0 0
        """);
    s.says("Terms", "each place once, by x, then y, then z, the least first; FRACTIONS.", CUBE + """
        spots -1 -1 -1, -1 -1 1, -1 1 -1, -1 1 1, 1 -1 -1, 1 -1 1, 1 1 -1, 1 1 1
        walls 1 1 1 3, 1 1 0 2, 2 0 0 2, 0 1 1 2     # places of four, five, six WALLS
        spots -1 -1 -1, -1 -1 1, -1 1 -1, -1 1 1, 1 -1 -1, 1 -1 1, 1 1 -1, 1 1 1
        """ + "new\n" + TIP + """
        spots 0 0 0, 0 0 7/5, 0 7/3 0, 7/2 0 0
        new                                     # -1/2 is less than -1/3, written with other numbers below
        walls 6 0 0 -2, -4 0 0 2, 0 1 0 0, 0 -1 0 0, 0 0 1 0, 0 0 -1 0; spots -1/2 0 0, -1/3 0 0
        new                                     # y and z likewise; x is one place told by two WALLS
        walls 4 0 0 2, -6 0 0 -3, 0 6 0 -2, 0 -4 0 2, 0 0 8 4, 0 0 -9 -3
        spots 1/2 -1/2 1/3, 1/2 -1/2 1/2, 1/2 -1/3 1/3, 1/2 -1/3 1/2
        new                                     # eight WALLS, four at each of six
        walls 1 1 1 2, 1 1 -1 2, 1 -1 1 2, 1 -1 -1 2, -1 1 1 2, -1 1 -1 2, -1 -1 1 2, -1 -1 -1 2
        spots -2 0 0, 0 -2 0, 0 0 -2, 0 0 2, 0 2 0, 2 0 0
        new                                     # as steep and as far as WALLS come
        walls -9 9 9 99, 9 -9 9 99, 9 9 -9 99; spots 11 11 11
        new
        walls -9 9 8 99, 9 -8 9 99, 8 9 -9 99; spots 153/14 171/14 153/14
        """ + "new\n" + ONE_PLACE + "spots 0 0 0\nnew\n" + TENT + """
        spots -9 -3 0, -9 3 0, -3 -9 0, -3 9 0, 0 0 4, 3 -9 0, 3 9 0, 9 -3 0, 9 3 0
        """ + "new\n" + TEN + """
        vertices() 16; vertex(0, 0) -8; vertex(0, 1) -2; vertex(0, 2) -6; vertex(1, 1) 2; vertex(2, 0) -7; vertex(2, 1) -5
        vertex(15, 0) 8; vertex(15, 1) 2; vertex(15, 2) -6; vertex(16, 0) UNKNOWN
        """ + "new\n" + ANY_THREE + """
        vertices() 16; tights 259 321 770 896 448 19 522 26 69 21 704 608 100 28 44 552      # 896: the last three WALLS
        vertex(3, 0) -9/8; vertex(3, 1) -21/8; vertex(3, 2) -13/8; vertex(6, 0) -1/11; vertex(7, 0) -1/11; vertex(6, 1) 4/11; vertex(7, 1) 139/44
        points 0 0, 1 0, 0 1; fewest() NONE; rims() 24; shadow() 9
        """);
  }

  private static void soundness(Script s) {
    s.says("Terms", "THE BODY is SOUND, if there is a VERTEX, and no step (x, y, z) other than 0, 0, 0"
        + " that all WALLS that are ON let go on without end (a x + b y + c z is 0 or below).", """
        sound() 0                               # no WALLS
        """ + CUBE + """
        sound() 1
        on(0, false) 1; vertices() 4; sound() 0; on(0, true) 0; on(1, false) 1; sound() 0; on(1, true) 0
        on(2, false) 1; vertices() 4; sound() 0; on(2, true) 0; on(3, false) 1; sound() 0; on(3, true) 0
        on(4, false) 1; vertices() 4; sound() 0; on(4, true) 0; on(5, false) 1; sound() 0; on(5, true) 0; sound() 1
        shift(0, -2) 1; vertices() 0; sound() 0     # no step without end, but no VERTEX
        shift(0, -1) -2; vertices() 4; sound() 1    # flat
        shift(2, -1) 1; vertices() 2; sound() 1     # a line
        shift(4, -1) 1; spots -1 -1 -1; sound() 1   # one place
        new                                     # no step goes on, and the WALLS meet, but never all hold
        walls -1 0 0 0, 0 -1 0 0, 0 0 -1 0, 1 1 1 -1; vertices() 0; sound() 0; shift(3, 0) -1; sound() 1
        new
        walls -1 0 0 0, 0 -1 0 0, 0 0 -1 0; spots 0 0 0; sound() 0
        walls 1 1 0 0; spots 0 0 0; sound() 0       # the step 0, 0, 1 alone: three of four are 0
        walls 0 0 1 0; spots 0 0 0; sound() 1; on(4, false) 1; sound() 0     # what is OFF stops none
        new                                     # a pillar: the step 0, 0, 1 is 0 for all
        walls 1 0 0 1, -1 0 0 1, 0 1 0 1, 0 -1 0 1; vertices() 0; sound() 0
        walls 0 0 1 1; vertices() 4; sound() 0; walls 1 1 -1 9; vertices() 8; sound() 1
        new                                     # flat, and one step goes on
        walls 0 0 1 0, 0 0 -1 0, 1 0 0 5, -1 0 0 5, 0 1 0 5; spots -5 5 0, 5 5 0; sound() 0
        walls 0 -1 0 -5; spots -5 5 0, 5 5 0; sound() 1
        new                                     # aslant: the steps -1, -1, 1 and 1, 1, -1 are 0 for three
        walls 1 2 3 6, -2 1 -1 4, 1 -3 -2 5; vertices() 0; sound() 0; walls 1 1 0 3; vertices() 3; sound() 0
        walls -1 -1 0 3; vertices() 6; sound() 1; on(3, false) 1; vertices() 3; sound() 0
        new
        walls 1 2 3 6, -2 1 -1 4, 1 -3 -1 5; vertices() 1; sound() 0; walls 1 2 -2 7, -1 -1 0 6; sound() 1
        """ + "new\n" + ONE_PLACE + "sound() 1\nnew\n" + TENT + "sound() 1; on(8, false) 1; spots 0 0 4; sound() 0\n");
  }

  private static void rims(Script s) {
    s.says("Terms", "A WALL is TIGHT at a VERTEX, if a x + b y + c z is d there.", CUBE + """
        tights 42 26 38 22 41 25 37 21
        walls 1 1 1 3, 2 0 0 2; tights 42 26 38 22 169 153 165 213    # at one VERTEX, at four
        shift(6, 4) 3; shift(7, 3) 2; tights 42 26 38 22 41 25 37 21  # just beyond
        """);
    s.says("Terms", "A RIM: two VERTICES so that of the WALLS that are ON and TIGHT at both two have steps that are no multiples of one another,"
        + " and no other VERTEX has all of these TIGHT.", CUBE + """
        rims() 12
        walls 2 0 0 2, -9 0 0 9; rims() 12           # multiples
        walls 1 1 0 2; rims() 12                     # three WALLS at both
        walls 1 -1 0 0; vertices() 6; rims() 9       # along diagonals of two sides
        on(9, false) 1; vertices() 8; rims() 12      # but OFF
        """ + "new\n" + SHEET + """
        rims() 4                                     # 1 and -1 times: multiples too
        shift(0, 3) 2; shift(1, -3) -2; rims() 4
        shift(2, -1) 1; vertices() 2; rims() 1       # a line
        shift(4, -1) 1; vertices() 1; rims() 0       # one place
        """ + "new\n" + TIP + "rims() 6\nnew\n" + TENT + "rims() 16\nnew\n" + TEN + "rims() 24\nnew\n" + ONE_PLACE + "rims() 0\n");
  }

  private static void idleWalls(Script s) {
    s.says("Terms", "A WALL that is ON is IDLE, if without it THE BODY is SOUND and has the same VERTICES.", CUBE + """
        idle(0) 0; idle(1) 0; idle(2) 0; idle(3) 0; idle(4) 0; idle(5) 0
        walls 1 1 1 4; idle(6) 1                # beyond
        shift(6, 3) 4; idle(6) 1                # touches one VERTEX
        shift(6, 2) 3; idle(6) 0                # cuts it off
        walls 2 0 0 2; idle(0) 1; idle(7) 1     # two of one plane: without either
        on(0, false) 1; idle(7) 0; idle(0) 0
        new                                     # the same VERTEX without it, but not SOUND
        walls -1 0 0 0, 0 -1 0 0, 0 0 -1 0, 1 1 1 0; idle(0) 0; idle(1) 0; idle(2) 0; idle(3) 0
        walls 1 0 0 0; idle(3) 0; idle(0) 0; idle(4) 1
        """ + "new\n" + SHEET + """
        idle(0) 0; idle(1) 0; idle(2) 0; idle(5) 0
        """ + "new\n" + ONE_PLACE + """
        idle(0) 1; idle(1) 1; idle(2) 1; idle(3) 1; idle(4) 1; idle(5) 1; idle(6) 1; idle(7) 1; idle(8) 1; idle(9) 1
        """ + "new\n" + ANY_THREE + """
        idle(0) 0; idle(1) 0; idle(2) 0; idle(3) 0; idle(4) 0; idle(5) 0; idle(6) 0; idle(7) 0; idle(8) 0; idle(9) 0
        """);
  }

  private static void callsOnWalls(Script s) {
    s.says("Promise 20", "A WALL, ON: its number.", """
        wall(0, 0, 1, 5) 0; about(0, 4) 1; wall(0, 0, 1, 5) 1; on(0, false) 1; wall(1, 0, 0, 0) 2; about(2, 4) 1; about(0, 4) 0; count(2) 2
        """);
    s.says("Promise 20", "OUTSIDE; FULL: 10.", """
        walls 1 1 1 0, 1 1 1 1, 1 1 1 2, 1 1 1 3, 1 1 1 4, 1 1 1 5, 1 1 1 6, 1 1 1 7, 1 1 1 8
        wall(0, 0, 0, 1) OUTSIDE; wall(2147483647, 1, 1, 1) OUTSIDE; wall(1, -2147483648, 1, 1) OUTSIDE; wall(1, 1, 65537, 1) OUTSIDE
        wall(1, 1, 1, 2147483647) OUTSIDE; wall(1, 1, 1, -2147483648) OUTSIDE; wall(1, 1, 1, 256) OUTSIDE; wall(256, 0, 0, 0) OUTSIDE
        count(1) 9; wall(1, 1, 1, 9) 9; wall(1, 1, 1, 10) FULL
        wall(0, 0, 0, 1) OUTSIDE; wall(10, 0, 0, 1) OUTSIDE; wall(0, -10, 0, 1) OUTSIDE; wall(0, 0, 10, 1) OUTSIDE; wall(1, 0, 0, -100) OUTSIDE
        on(3, false) 1; wall(1, 1, 1, 10) FULL; clear() 0; wall(1, 1, 1, 10) FULL; count(1) 10
        """);
    s.says("Promise 21", "d of a WALL: what it was.", CUBE + """
        shift(0, 99) 1; shift(0, -99) 99; shift(0, 0) -99; shift(0, 0) 0; shift(0, 3) 0; mostOf(1, 0, 0) 3
        on(5, false) 1; shift(5, 7) 1; about(5, 3) 7; about(5, 4) 0; sound() 0; on(5, true) 0; mostOf(0, 0, -1) 7
        """);
    s.says("Promise 21", "UNKNOWN; OUTSIDE.", """
        shift(0, 0) UNKNOWN; shift(0, 100) UNKNOWN
        """ + CUBE + """
        shift(6, 0) UNKNOWN; shift(-1, 0) UNKNOWN; shift(10, 0) UNKNOWN; shift(2147483647, 0) UNKNOWN; shift(-2147483648, 0) UNKNOWN; shift(256, 0) UNKNOWN
        shift(6, 100) UNKNOWN; shift(-1, -100) UNKNOWN
        shift(5, 100) OUTSIDE; shift(5, -100) OUTSIDE; shift(0, 2147483647) OUTSIDE; shift(0, -2147483648) OUTSIDE; shift(0, 65536) OUTSIDE
        shift(5, 99) 1; shift(5, -99) 99
        """);
    s.says("Promise 22", "A WALL is ON, or OFF: whether it was ON: 1, 0.", CUBE + """
        on(5, true) 1; on(5, true) 1; count(2) 6; sound() 1
        on(5, false) 1; on(5, false) 0; on(5, false) 0; count(2) 5; count(1) 6; sound() 0
        on(5, true) 0; on(5, true) 1; count(2) 6; sound() 1
        on(0, false) 1; on(1, false) 1; on(2, false) 1; on(3, false) 1; on(4, false) 1; on(5, false) 1; count(2) 0; vertices() 0; sound() 0
        """);
    s.says("Promise 22", "UNKNOWN.", """
        on(0, true) UNKNOWN; on(0, false) UNKNOWN
        """ + CUBE + """
        on(6, true) UNKNOWN; on(6, false) UNKNOWN; on(-1, true) UNKNOWN; on(-1, false) UNKNOWN; on(32, false) UNKNOWN
        on(2147483647, false) UNKNOWN; on(-2147483648, false) UNKNOWN; on(256, false) UNKNOWN; count(2) 6
        """);
    s.says("Promise 23", "a, b, c, d of a WALL (what = 0 to 3), whether it is ON (4).", """
        walls 9 -9 6 -99, 0 0 -9 99
        about(0, 0) 9; about(0, 1) -9; about(0, 2) 6; about(0, 3) -99; about(0, 4) 1; about(1, 0) 0; about(1, 2) -9; about(1, 3) 99
        on(1, false) 1; about(1, 4) 0; about(0, 4) 1; about(1, 2) -9; shift(0, 98) -99; about(0, 3) 98
        """);
    s.says("Promise 23", "UNKNOWN; OUTSIDE.", """
        about(0, 0) UNKNOWN; about(0, 5) UNKNOWN; walls 1 2 3 4
        about(1, 0) UNKNOWN; about(-1, 0) UNKNOWN; about(2147483647, 4) UNKNOWN; about(-2147483648, 4) UNKNOWN; about(256, 0) UNKNOWN; about(32, 4) UNKNOWN
        about(1, 5) UNKNOWN; about(-1, -1) UNKNOWN; about(10, 5) UNKNOWN
        about(0, 5) OUTSIDE; about(0, -1) OUTSIDE; about(0, 2147483647) OUTSIDE; about(0, -2147483648) OUTSIDE; about(0, 256) OUTSIDE
        """);
  }

  private static void callsOnTheBody(Script s) {
    s.says("Promise 24", "Whether THE BODY is SOUND: 1, 0.", """
        sound() 0
        """ + TIP + """
        sound() 1; on(3, false) 1; sound() 0; on(3, true) 0; sound() 1; shift(3, -1) 7; sound() 0; shift(3, 0) -1; sound() 1
        """);
    s.says("Promise 25", "How many VERTICES there are (whether it is SOUND or not).", """
        vertices() 0
        """ + CUBE + """
        vertices() 8; on(0, false) 1; sound() 0; vertices() 4; on(2, false) 1; sound() 0; vertices() 2
        on(4, false) 1; sound() 0; vertices() 1; on(1, false) 1; vertices() 0; sound() 0
        """ + "new\n" + TEN + "vertices() 16; on(0, false) 1; on(5, false) 1; vertices() 12\n");
    s.says("Promise 26", "x, y, z (what = 0 to 2) of a VERTEX.", TIP + """
        vertex(1, 2, true) 7; vertex(1, 2, false) 5; vertex(2, 1, true) 7; vertex(2, 1, false) 3; vertex(3, 0, true) 7; vertex(3, 0, false) 2
        on(3, false) 1; sound() 0; spots 0 0 0
        """);
    s.says("Promise 26", "UNKNOWN; OUTSIDE.", """
        vertex(0, 0) UNKNOWN; vertex(0, 3) UNKNOWN
        """ + TIP + """
        vertex(4, 0) UNKNOWN; vertex(-1, 0) UNKNOWN; vertex(2147483647, 0) UNKNOWN; vertex(-2147483648, 0) UNKNOWN; vertex(256, 0) UNKNOWN
        vertex(4, 3) UNKNOWN; vertex(-1, -1) UNKNOWN
        vertex(3, 3) OUTSIDE; vertex(3, -1) OUTSIDE; vertex(0, 2147483647) OUTSIDE; vertex(0, -2147483648) OUTSIDE; vertex(0, 256) OUTSIDE
        on(3, false) 1; sound() 0; vertex(1, 0) UNKNOWN; vertex(1, 3) UNKNOWN; vertex(0, 3) OUTSIDE; vertex(0, -1) OUTSIDE
        """);
  }

  private static void callsOnVertices(Script s) {
    s.says("Promise 27", "The set of WALLS that are ON and TIGHT at a VERTEX.", ONE_PLACE + """
        tights 1023; on(9, false) 1; tights 511; on(0, false) 1; tights 510; on(9, true) 0; tights 1022
        new                                     # not SOUND
        walls -1 0 0 0, 0 -1 0 0, 0 0 -1 0; sound() 0; tights 7
        """);
    s.says("Promise 27", "UNKNOWN.", """
        tight(0) UNKNOWN
        """ + CUBE + """
        tight(7) 21; tight(8) UNKNOWN; tight(-1) UNKNOWN; tight(2147483647) UNKNOWN; tight(-2147483648) UNKNOWN; tight(256) UNKNOWN
        on(0, false) 1; tight(3) 22; tight(4) UNKNOWN; tight(-1) UNKNOWN; shift(1, -99) 1; shift(2, -99) 1; vertices() 0; tight(0) UNKNOWN
        """);
  }

  private static void callsOnSoundBodies(Script s) {
    s.says("Promise 28", "How many RIMS there are.", CUBE + """
        rims() 12; walls 1 1 1 2; rims() 15; shift(6, -3) 2; vertices() 1; rims() 0
        """);
    s.says("Promise 28", "STATE: it is not SOUND.", """
        rims() STATE
        """ + CUBE + """
        rims() 12; on(4, false) 1; vertices() 4; rims() STATE; on(4, true) 0; rims() 12; shift(4, -2) 1; vertices() 0; rims() STATE
        """);
    s.says("Promise 29", "Whether a WALL is IDLE: 1, 0 (OFF: 0).", CUBE + """
        walls 1 1 1 4; idle(6) 1; idle(0) 0; on(6, false) 1; sound() 1; idle(6) 0; on(6, true) 0; idle(6) 1
        """);
    s.says("Promise 29", "UNKNOWN; STATE: it is not SOUND.", """
        idle(0) UNKNOWN; idle(-1) UNKNOWN
        """ + CUBE + """
        idle(5) 0; idle(6) UNKNOWN; idle(-1) UNKNOWN; idle(10) UNKNOWN; idle(2147483647) UNKNOWN; idle(-2147483648) UNKNOWN; idle(256) UNKNOWN; idle(32) UNKNOWN
        on(4, false) 1; sound() 0; idle(5) STATE; idle(4) STATE; idle(6) UNKNOWN; idle(-1) UNKNOWN
        on(4, true) 0; shift(4, -2) 1; vertices() 0; idle(0) STATE; idle(6) UNKNOWN
        """);
  }
}
