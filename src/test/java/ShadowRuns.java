/** What the document says of the shadow. */
final class ShadowRuns {
  private static final String SQUARE = """
      points -1 -1, 1 -1, 1 1, -1 1
      """;
  /** x, y of -1/2, 1/2 to 1/3, -1/3: an upright sheet. */
  private static final String LINE = """
      walls 1 1 0 0, -1 -1 0 0, 0 2 0 1, 0 -3 0 1, 0 0 1 1, 0 0 -1 1
      """;
  /** x, y of 2, 1: an upright line. */
  private static final String PLACE = """
      walls 1 0 0 2, -1 0 0 -2, 0 1 0 1, 0 -1 0 -1, 0 0 1 1, 0 0 -1 1
      """;
  /** One half of the cube's corners, and the other; the first wall of the one comes first. */
  private static final String TWO_SPIKES = """
      walls -1 -1 -1 1, -1 -1 1 1, -1 1 -1 1, 1 -1 -1 1, 1 1 1 1, -1 1 1 1, 1 -1 1 1, 1 1 -1 1
      """;
  /** The last four make a body with whole corners; no three of the ten meet in other than a place. */
  private static final String FOUR_OF_TEN = """
      walls 3 3 -4 98, 1 -1 -1 99, 4 2 -3 97, 1 1 -4 98, -3 3 -2 95, 4 0 2 97, -1 0 -1 11, 0 3 3 6, 0 -1 2 10, 3 -2 -3 7
      points -15 -2, -9 -14, 5 -2, 0 13
      """;
  /** Eight upright walls, a floor and a lid. */
  private static final String ALL_TEN = """
      walls 1 0 0 3, -1 0 0 3, 0 1 0 3, 0 -1 0 3, 1 1 0 4, 1 -1 0 4, -1 1 0 4, -1 -1 0 4, 0 0 1 1, 0 0 -1 1
      points 3 1, 3 -1, -3 1, -3 -1, 1 3, 1 -3, -1 3, -1 -3
      """;

  private ShadowRuns() {
  }

  static void play(Script s) {
    shadows(s);
    seen(s);
    outside(s);
    fewest(s);
    fewestByCorners(s);
    fewestOfSets(s);
    blown(s);
    callsOnTheShadow(s);
    callsOnBoth(s);
    callsOnTheFewest(s);
  }

  private static void shadows(Script s) {
    s.says("Terms", "THE SHADOW of a SOUND BODY: VERTICES without z; its CORNERS as those of THE FIGURE (from the least x, then y).",
        BodyRuns.CUBE + """
        cast -1 -1, 1 -1, 1 1, -1 1             # each place once
        """ + "new\n" + BodyRuns.TIP + """
        cast 0 0, 7/2 0, 0 7/3
        new                                     # two VERTICES on a rim of it
        walls 1 0 0 1, -1 0 0 1, 0 1 0 1, 0 -1 0 1, 0 0 -1 1, 1 0 1 1, -1 0 1 1
        vertices() 10; cast -1 -1, 1 -1, 1 1, -1 1
        new                                     # one within
        walls 1 0 1 1, -1 0 1 1, 0 1 1 1, 0 -1 1 1, 0 0 -1 1; vertices() 5; cast -2 -2, 2 -2, 2 2, -2 2
        new                                     # of like x the least y, fractions too
        walls 3 0 0 -1, -3 0 0 2, 0 4 0 1, 0 -5 0 1, 0 0 1 1, 0 0 -1 1; cast -2/3 -1/5, -1/3 -1/5, -1/3 1/4, -2/3 1/4
        """ + "new\n" + LINE + "vertices() 4; cast -1/2 1/2, 1/3 -1/3\nnew\n" + PLACE + "vertices() 2; cast 2 1\nnew\n" + BodyRuns.TEN + """
        cast -8 -2, -7 -5, -5 -7, -2 -8, 2 -8, 5 -7, 7 -5, 8 -2, 8 2, 7 5, 5 7, 2 8, -2 8, -5 7, -7 5, -8 2
        """ + "new\n" + BoundsRuns.EIGHT_FOR_TWELVE + """
        cast -8 -2, -7 -5, -5 -7, -2 -8, 2 -8, 11 -5, 14 -2, 14 2, 2 14, -2 14, -5 11, -8 2
        """);
  }

  private static void seen(Script s) {
    s.says("Terms", "THE FIGURE is SEEN, if it is not FLAT and THE SHADOW has just its CORNERS.", SQUARE + BodyRuns.CUBE + """
        seen() 1; points 0 0, 1 0, 1 1; seen() 1                # POINTS that are no CORNERS
        points 2 0; seen() 0                                    # a CORNER more
        move(7, 0, 0) 1; seen() 1; move(0, 0, 0) 1; seen() 0    # a CORNER less
        move(0, -1, 0) 1; corners() 4; seen() 0                 # as many, one elsewhere, on the rim of THE SHADOW
        move(0, -1, -2) 1; corners() 4; seen() 0                # as many, one outside of it
        move(0, -1, -1) 1; seen() 1
        shift(4, 99) 1; seen() 1; shift(0, 2) 1; seen() 0; shift(0, 0) 2; seen() 0
        clear() 8; seen() 0; points 1 1; seen() 0
        """ + "new\npoints 2 1; " + PLACE + """
        seen() 0; missed() 0; beyond() 0                        # FLAT, though THE SHADOW has just its CORNER
        new
        walls 1 1 0 0, -1 -1 0 0, 0 1 0 1, 0 -1 0 1, 0 0 1 1, 0 0 -1 1; points -1 1, 1 -1; cast -1 1, 1 -1
        seen() 0; missed() 0; beyond() 0                        # and just its two
        new                                                     # a flat BODY aslant
        walls -1 0 0 0, 0 -1 0 0, 0 0 -1 0, 1 1 1 1, -1 -1 -1 -1; points 0 0, 1 0, 0 1; seen() 1
        """ + "new\n" + BodyRuns.TIP + """
        points 0 0, 3 0, 0 2; seen() 0; shift(3, 6) 7; seen() 1 # fractions, then whole ones
        """ + "new\n" + BodyRuns.TEN + """
        points -8 -2, -7 -5, -5 -7, -2 -8, 2 -8, 5 -7, 7 -5, 8 -2, 8 2, 7 5, 5 7, 2 8; seen() 0     # sixteen are more than twelve
        """);
  }

  private static void outside(Script s) {
    s.says("Terms", "MISSED: how many CORNERS of THE FIGURE are outside THE SHADOW; BEYOND: how many CORNERS of THE SHADOW are outside THE FIGURE"
        + " (FLAT ones too; what is on a rim is not outside).", BodyRuns.CUBE + """
        points 1 0; missed() 0; beyond() 4                      # on a rim; of a place
        move(0, 1, 1) 1; missed() 0; beyond() 3                 # on a CORNER
        move(0, 2, 0) 1; missed() 1; beyond() 4; move(0, 2, 2) 1; missed() 1; beyond() 4
        points -2 -2; missed() 2; beyond() 2                    # a line over two
        move(0, 0, 0) 1; missed() 1; beyond() 3; move(0, 1, 1) 1; missed() 1; beyond() 2; move(1, -1, -1) 1; missed() 0; beyond() 2
        move(0, -1, 5) 1; missed() 1; beyond() 2; move(1, -1, 2) 1; missed() 2; beyond() 4
        points 3 -3; missed() 3; beyond() 3                     # 1, 1 is on a rim
        clear() 3; points -1 -3, 3 1, -1 1; missed() 2; beyond() 0   # 1, -1 is on a rim
        move(1, 3, 2) 1; missed() 2; beyond() 1
        """ + "new\n" + LINE + """
        points 0 0; missed() 0; beyond() 2
        move(0, -1, 1) 1; missed() 1; beyond() 2; move(0, 1, -1) 1; missed() 1; beyond() 2; move(0, 0, 1) 1; missed() 1; beyond() 2
        points 1 0; missed() 2; beyond() 2; move(0, -1, 1) 1; move(1, 1, -1) 1; missed() 2; beyond() 0
        move(1, 0, 0) 1; missed() 1; beyond() 1
        points 1 1; missed() 2; beyond() 1; move(1, 1, -1) 1; missed() 3; beyond() 0
        """ + "new\n" + PLACE + """
        points 2 1; missed() 0; beyond() 0; move(0, 2, 0) 1; missed() 1; beyond() 1; move(0, 1, 1) 1; missed() 1; beyond() 1
        points 3 1; missed() 2; beyond() 0; move(1, 2, 2) 1; missed() 2; beyond() 1
        """);
  }

  private static void fewest(Script s) {
    s.says("Terms", "THE FEWEST: of all sets of WALLS that are ON now the fewest so that with these alone THE BODY is SOUND and THE FIGURE SEEN;", SQUARE + """
        chosen none
        """ + BodyRuns.CUBE + """
        seen() 1; chosen 0 1 2 3 4 5
        on(4, false) 1; sound() 0; chosen none                  # all CORNERS have a VERTEX, but it is not SOUND
        on(4, true) 0; shift(0, 2) 1; seen() 0; chosen none; shift(0, 1) 2
        walls -1 -1 -1 1, -1 1 1 1, 1 -1 1 1, 1 1 -1 1; chosen 6 7 8 9    # fewer, though behind
        on(9, false) 1; fewest() 5; on(9, true) 0
        shift(0, -99) 1; sound() 0; chosen 6 7 8 9              # with all that are ON there is no BODY
        shift(0, 0) -99; seen() 0; chosen 6 7 8 9               # nor is it SEEN with all
        points 2 2; chosen none; move(4, 0, 0) 1; chosen 6 7 8 9
        clear() 5; chosen none; points 1 1, -1 -1; chosen none  # FLAT
        """ + "new\n" + ALL_TEN + """
        seen() 1; chosen 0 1 2 3 4 5 6 7 8 9; on(9, false) 1; chosen none
        """ + "new\n" + BoundsRuns.TWELVE + BodyRuns.TEN + """
        corners() 12; seen() 0; chosen 0 1 2 4 5 6 7 9
        on(3, false) 1; on(8, false) 1; seen() 1; chosen 0 1 2 4 5 6 7 9
        """);
  }

  private static void fewestByCorners(Script s) {
    s.says("Terms", "so that with these alone THE BODY is SOUND and THE FIGURE SEEN;", SQUARE + BodyRuns.CUBE + """
        move(0, -2, -1) 1; missed() 1; beyond() 0; chosen none; move(0, -1, -1) 1; chosen 0 1 2 3 4 5    # a CORNER is missed
        move(1, 2, -1) 1; missed() 1; beyond() 0; chosen none; move(1, 1, -1) 1
        move(2, 2, 1) 1; missed() 1; beyond() 0; chosen none; move(2, 1, 1) 1
        move(3, -2, 1) 1; missed() 1; beyond() 0; chosen none; move(3, -1, 1) 1
        move(0, 0, 0) 1; missed() 0; beyond() 1; chosen none; move(0, -1, -1) 1                          # one is beyond
        move(1, 0, 0) 1; missed() 0; beyond() 1; chosen none; move(1, 1, -1) 1
        move(2, 0, 0) 1; missed() 0; beyond() 1; chosen none; move(2, 1, 1) 1
        move(3, 0, 0) 1; missed() 0; beyond() 1; chosen none; move(3, -1, 1) 1; chosen 0 1 2 3 4 5
        new                                     # a VERTEX within
        walls 1 0 1 1, -1 0 1 1, 0 1 1 1, 0 -1 1 1, 0 0 -1 1; points -2 -2, 2 -2, 2 2, -2 2; chosen 0 1 2 3 4
        new                                     # two on rims
        walls 0 1 0 1, 0 -1 0 1, 0 0 -1 1, 1 0 1 1, -1 0 1 1; points -2 -1, 2 -1, 2 1, -2 1; vertices() 6; chosen 0 1 2 3 4
        """ + "new\n" + SQUARE + """
        walls 1 0 0 1, 0 1 0 1, -1 -1 0 0, 0 0 1 1, 0 0 -1 1, 1 -1 0 0, -1 0 0 1; chosen none     # WALLS meet over each CORNER, in vain
        walls 0 -1 0 1; chosen 0 1 3 4 6 7
        """ + "new\n" + FOUR_OF_TEN + """
        vertices() 4; seen() 1; chosen 6 7 8 9; on(7, false) 1; chosen none
        """);
  }

  private static void fewestOfSets(Script s) {
    s.says("Terms", "of as many the first by WALLS (compared one by one).", SQUARE + TWO_SPIKES + """
        seen() 0; chosen 0 5 6 7                                # 0 is before 1; what comes behind does not count
        on(0, false) 1; chosen 1 2 3 4; on(0, true) 0; chosen 0 5 6 7
        on(7, false) 1; chosen 1 2 3 4; walls 1 1 -1 1; chosen 0 5 6 8      # 7 is OFF, 8 is of the same plane
        on(7, true) 0; chosen 0 5 6 7; walls -1 -1 -1 1; chosen 0 5 6 7; on(0, false) 1; chosen 1 2 3 4
        on(4, false) 1; chosen 5 6 7 9; on(7, false) 1; chosen 5 6 8 9
        """);
  }

  private static void blown(Script s) {
    s.says("Terms", "TO BLOW: the least number by which THE SHADOW (as seen from 0, 0, which is within it and not on its rim)"
        + " has to be taken so that THE FIGURE lies in it; a FRACTION, 0 at least.", BodyRuns.CUBE + """
        points 0 0; blow() 0                    # 0, 0 alone
        points 1 0; blow() 1; move(1, 1, 1) 1; blow() 1; move(1, 2, 1) 1; blow() 2; move(1, -50, 50) 1; blow() 50
        shift(0, 99) 1; shift(1, 98) 1; shift(2, 97) 1; shift(3, 96) 1; blow() 50/97; move(1, -50, 0) 1; blow() 25/49
        points 0 -48; blow() 25/49; move(2, 0, -49) 1; blow() 49/96; move(2, 0, -50) 1; blow() 25/48
        new                                     # by a wall of the shadow that is none of the body
        walls 9 8 9 -1, 8 9 -8 1, -1 0 0 1, 0 -1 0 1; sound() 1; points 50 50; blow() 14450; points -50 -50; blow() 14450
        move(0, -50, -49) 1; blow() 50; move(0, 49, 50) 1; blow() 14306
        new                                     # 0, 0 is within by the least
        points 1 0, 1 1, 0 1, -1 0, -1 -1, 0 -1
        walls 1 0 0 1, -1 0 0 1, 0 1 0 1, 0 -1 0 1, 1 -1 0 1, -1 1 0 1, 0 0 1 1, 0 0 -1 1; blow() 1; move(1, 2, 2) 1; blow() 2
        new
        walls 0 0 -1 0, 9 8 1 99, -9 7 2 98, 1 -9 3 97, 0 0 1 5; points -50 50; blow() 400/49
        move(0, 50, 50) 1; blow() 850/99; move(0, 0, -50) 1; blow() 450/97; move(0, 0, 0) 1; blow() 0
        """);
  }

  private static void callsOnTheShadow(Script s) {
    s.says("Promise 30", "How many CORNERS THE SHADOW has.", PLACE + "shadow() 1\nnew\n" + LINE + "shadow() 2\nnew\n" + BodyRuns.TIP
        + "shadow() 3\nnew\n" + BodyRuns.TEN + "shadow() 16\n");
    s.says("Promise 30", "STATE: THE BODY is not SOUND.", """
        shadow() STATE
        """ + BodyRuns.CUBE + """
        shadow() 4; on(5, false) 1; vertices() 4; shadow() STATE; on(5, true) 0; shadow() 4; shift(5, -2) 1; vertices() 0; shadow() STATE
        """);
    s.says("Promise 31", "x (y = false), y of one of these.", BodyRuns.TIP + """
        shadowAt(1, false, true) 7; shadowAt(1, false, false) 2; shadowAt(1, true, true) 0; shadowAt(1, true, false) 1
        shadowAt(2, true, true) 7; shadowAt(2, true, false) 3; shadowAt(2, false) 0
        """);
    s.says("Promise 31", "STATE: it is not SOUND; UNKNOWN.", """
        shadowAt(0, false) STATE; shadowAt(-1, true) STATE
        """ + BodyRuns.CUBE + """
        shadowAt(3, true) 1; shadowAt(4, true) UNKNOWN; shadowAt(7, false) UNKNOWN; shadowAt(-1, true) UNKNOWN      # seven VERTICES more, no CORNERS
        shadowAt(2147483647, true) UNKNOWN; shadowAt(-2147483648, false) UNKNOWN; shadowAt(256, false) UNKNOWN
        on(0, false) 1; shadowAt(0, false) STATE; shadowAt(4, true) STATE; shadowAt(-1, true) STATE
        on(0, true) 0; shift(0, -2) 1; shadowAt(0, false) STATE; shift(0, -1) -2; shadowAt(0, false) -1; shadowAt(1, true) 1; shadowAt(2, false) UNKNOWN
        """);
  }

  private static void callsOnBoth(Script s) {
    s.says("Promise 32", "Whether THE FIGURE is SEEN: 1, 0.", SQUARE + BodyRuns.CUBE + """
        seen() 1; shift(3, 2) 1; seen() 0; shift(3, 1) 2; seen() 1; move(0, 0, 0) 1; seen() 0
        """);
    s.says("Promise 32", "STATE: it is not SOUND.", "seen() STATE\n" + SQUARE + "seen() STATE\n" + BodyRuns.CUBE + """
        seen() 1; on(5, false) 1; seen() STATE; clear() 4; seen() STATE; on(5, true) 0; seen() 0; shift(5, -2) 1; seen() STATE
        """);
    s.says("Promise 33", "MISSED.", BodyRuns.CUBE + """
        missed() 0                              # no POINTS: no CORNERS
        points 9 9; missed() 1; points 9 -9; missed() 2; points -9 0; missed() 3; points 9 0; missed() 3
        """);
    s.says("Promise 33", "STATE: it is not SOUND.", "missed() STATE\n" + SQUARE + "missed() STATE\n" + BodyRuns.CUBE + """
        missed() 0; on(5, false) 1; missed() STATE; clear() 4; missed() STATE; on(5, true) 0; missed() 0; shift(5, -2) 1; missed() STATE
        """);
    s.says("Promise 34", "BEYOND.", BodyRuns.TEN + """
        points 0 0; beyond() 16; points 8 2; beyond() 15; points -8 2, -8 -2, 8 -2; beyond() 12
        move(1, 50, 50) 1; move(2, -50, 50) 1; move(3, -50, -50) 1; move(4, 50, -50) 1; beyond() 0
        """);
    s.says("Promise 34", "STATE: it is not SOUND, or there are no POINTS.", "beyond() STATE\n" + BodyRuns.CUBE + """
        beyond() STATE; points 1 1; beyond() 3; on(5, false) 1; beyond() STATE; on(5, true) 0; beyond() 3
        shift(5, -2) 1; beyond() STATE; shift(5, 1) -2; clear() 1; beyond() STATE
        """);
    s.says("Promise 37", "TO BLOW.", SQUARE + BodyRuns.CUBE + """
        blow(true) 1; blow(false) 1; shift(0, 3) 1; shift(1, 3) 1; shift(2, 3) 1; shift(3, 3) 1; blow(true) 1; blow(false) 3
        """);
    s.says("Promise 37", "STATE: it is not SOUND, there are no POINTS, or 0, 0 is not within THE SHADOW.", "blow() STATE\n" + BodyRuns.CUBE + """
        blow() STATE; points 2 0; blow() 2; on(5, false) 1; blow() STATE; on(5, true) 0; blow() 2; clear() 1; blow() STATE
        points 2 0; shift(0, 0) 1; blow() STATE; shift(0, -1) 0; blow() STATE; shift(0, 1) -1; blow() 2     # on a rim; beyond a line
        shift(2, 0) 1; blow() STATE; shift(0, 0) 1; blow() STATE                                            # on a rim, a CORNER
        move(0, 0, 0) 1; blow() STATE                                                                       # though THE FIGURE is there too
        shift(1, 0) 1; shadow() 2; blow() STATE; shift(2, 1) 0; shadow() 2; blow() STATE                    # of a line: its end, its midst
        shift(2, 0) 1; shift(3, 0) 1; shadow() 1; blow() STATE                                              # 0, 0 is all of it
        new
        walls -9 0 0 1, 9 0 0 99, 0 1 0 1, 0 -1 0 1, 0 0 1 1, 0 0 -1 1; points -50 0; blow() 450; shift(0, 0) 1; blow() STATE
        """);
  }

  private static void callsOnTheFewest(Script s) {
    s.says("Promise 35", "How many WALLS THE FEWEST are; NONE.", """
        fewest() NONE; points 0 0, 1 0, 0 1; fewest() NONE
        walls -1 0 0 0, 0 -1 0 0, 0 0 -1 0; fewest() NONE; walls 1 1 1 1; fewest() 4; on(3, false) 1; fewest() NONE; on(3, true) 0; fewest() 4
        shift(3, 2) 1; fewest() NONE; move(1, 2, 0) 1; fewest() NONE; move(2, 0, 2) 1; fewest() 4; clear() 3; fewest() NONE
        """ + "new\n" + ALL_TEN + "fewest() 10\n");
    s.says("Promise 36", "The i-th WALL (from 0) of THE FEWEST; NONE: there is none such (also below 0).", """
        needed(0) NONE; needed(-1) NONE
        """ + ALL_TEN + """
        needed(0) 0; needed(9) 9; needed(10) NONE; needed(-1) NONE; needed(2147483647) NONE; needed(-2147483648) NONE; needed(256) NONE
        on(0, false) 1; needed(0) NONE; needed(-1) NONE; on(0, true) 0; needed(0) 0; clear() 8; needed(0) NONE
        """ + "new\n" + SQUARE + TWO_SPIKES + """
        needed(0) 0; needed(1) 5; needed(2) 6; needed(3) 7; needed(4) NONE; needed(-1) NONE
        """);
  }
}
