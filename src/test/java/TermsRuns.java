/** What the document says of all calls: refusals, their order, what they leave alone, fractions. */
final class TermsRuns {
  /** A figure, tables and a body with something everywhere: points within, a wall off, idle walls. */
  private static final String RICH = """
      points -1 -1, 1 -1, 1 1, -1 1, 0 0, 1 1
      factors(4, 2) 1; entry(true, 0, 0, 5) 0; entry(true, 11, 7, 6) 0; entry(false, 0, 0, 7) 0; entry(false, 7, 11, 8) 0
      walls 1 0 0 1, -1 0 0 1, 0 1 0 1, 0 -1 0 1, 0 0 1 1, 0 0 -1 1, 1 1 1 9, 2 3 5 7; on(7, false) 1
      """;
  private static final String TWELVE_ALIKE = """
      points 1 2, 1 2, 1 2, 1 2, 1 2, 1 2, 1 2, 1 2, 1 2, 1 2, 1 2, 1 2
      """;
  private static final String TEN_ALIKE = """
      walls 1 2 3 4, 1 2 3 4, 1 2 3 4, 1 2 3 4, 1 2 3 4, 1 2 3 4, 1 2 3 4, 1 2 3 4, 1 2 3 4, 1 2 3 4
      """;

  private TermsRuns() {
  }

  static void play(Script s) {
    mostCalls(s);
    order(s);
    unknown(s);
    nothingChanges(s);
    numbers(s);
  }

  /** The last of as many calls as an object is used for still answers. */
  private static void mostCalls(Script s) {
    StringBuilder runs = new StringBuilder("points 0 0, 9 0, 0 9\n" + BodyRuns.CUBE);
    for (int i = 0; i < 250; i++) {
      runs.append("on(0, false) 1\n").append("on(0, true) 0\n");
    }
    s.says("What it is", "An object is used for at most 512 calls after it has been made", runs + """
        move(0, -1, -1) 1; blow(true) 9; fewest() NONE
        """);
  }

  private static void order(Script s) {
    s.says("Terms", "REFUSALS, of several the first that a call names:", TWELVE_ALIKE + TEN_ALIKE + """
        point(51, 0) OUTSIDE; point(1, 2) FULL; wall(0, 0, 0, 0) OUTSIDE; wall(1, 2, 3, 100) OUTSIDE; wall(1, 2, 3, 4) FULL
        move(12, 51, 0) UNKNOWN; move(11, 51, 0) OUTSIDE; shift(10, 100) UNKNOWN; shift(9, 100) OUTSIDE; about(10, 5) UNKNOWN; about(9, 5) OUTSIDE
        wallOf(1, 3) UNKNOWN; wallOf(1, 0) UNKNOWN; wallOf(0, 3) STATE; wallOf(0, 0) STATE; slack(1, 0) UNKNOWN; slack(0, 1) UNKNOWN; slack(0, 0) STATE
        entry(true, 12, 0, -1) UNKNOWN; entry(true, 0, 8, 10000) UNKNOWN; entry(true, 11, 7, -1) OUTSIDE
        entry(false, 8, 0, -1) UNKNOWN; entry(false, 0, 12, 10000) UNKNOWN; entry(false, 7, 11, 10000) OUTSIDE
        idle(10) UNKNOWN; idle(9) STATE; shadowAt(0, true) STATE; shadowAt(-1, true) STATE
        vertex(0, 3) UNKNOWN; vertex(0, 0) UNKNOWN; mostOf(100, 0, 0) OUTSIDE; mostOf(0, 0, 0) STATE; at(0, 0, -100) OUTSIDE; at(0, 0, 0) STATE
        clear() 12; most(100, 0) OUTSIDE; most(0, 0) STATE
        new
        points 0 0, 4 0, 0 4; wallOf(3, 3) UNKNOWN; wallOf(2, 3) OUTSIDE
        """ + BodyRuns.CUBE + """
        vertex(8, 3) UNKNOWN; vertex(7, 3) OUTSIDE; shadowAt(4, true) UNKNOWN
        """);
  }

  private static void unknown(Script s) {
    s.says("Terms", "UNKNOWN (there is no such POINT, CORNER, EDGE, WALL, row), OUTSIDE (another number is not as told), STATE (as told), FULL.", """
        move(0, 0, 0) UNKNOWN; corner(0, true) UNKNOWN; wallOf(0, 0) UNKNOWN; slack(0, 0) UNKNOWN; shift(0, 0) UNKNOWN; on(0, true) UNKNOWN
        about(0, 0) UNKNOWN; idle(0) UNKNOWN; vertex(0, 0) UNKNOWN; tight(0) UNKNOWN; entry(true, 12, 0, 0) UNKNOWN; entry(false, 8, 0, 0) UNKNOWN
        """ + RICH + """
        move(5, 1, 1) 1; move(6, 1, 1) UNKNOWN; corner(3, true) 1; corner(4, true) UNKNOWN; wallOf(3, 0) -1; wallOf(4, 0) UNKNOWN
        slack(3, 3) 0; slack(4, 3) UNKNOWN; slack(3, 4) UNKNOWN; shift(7, 7) 7; shift(8, 7) UNKNOWN; on(7, false) 0; on(8, false) UNKNOWN
        about(7, 2) 5; about(8, 2) UNKNOWN; idle(7) 0; idle(8) UNKNOWN; vertex(7, 2) 1; vertex(8, 2) UNKNOWN; tight(7) 21; tight(8) UNKNOWN
        shadowAt(3, false) -1; shadowAt(4, false) UNKNOWN; entry(true, 11, 7, 6) 6; entry(true, 12, 7, 6) UNKNOWN; entry(false, 7, 11, 8) 8; entry(false, 8, 11, 8) UNKNOWN
        """);
  }

  private static void nothingChanges(Script s) {
    s.says("Terms", "What is refused changes nothing.", RICH + """
        seen() 1; fewest() 6; hold() 0; idle(6) 1
        point(51, 0) OUTSIDE; point(0, 51) OUTSIDE; move(6, 0, 0) UNKNOWN; move(-1, 0, 0) UNKNOWN; move(4, 51, 7) OUTSIDE; move(4, 7, -51) OUTSIDE; move(6, 51, 51) UNKNOWN
        factors(0, 5) OUTSIDE; factors(9, 5) OUTSIDE; factors(5, 0) OUTSIDE; factors(5, 1000) OUTSIDE
        entry(true, 12, 0, 9) UNKNOWN; entry(true, 0, 8, 9) UNKNOWN; entry(true, 0, -1, 9) UNKNOWN; entry(true, 1, -8, 9) UNKNOWN; entry(true, -1, 8, 9) UNKNOWN
        entry(false, 8, 0, 9) UNKNOWN; entry(false, 0, 12, 9) UNKNOWN; entry(false, 0, -1, 9) UNKNOWN; entry(false, 1, -12, 9) UNKNOWN; entry(false, -1, 12, 9) UNKNOWN
        entry(true, 0, 0, 10000) OUTSIDE; entry(true, 0, 0, -1) OUTSIDE; entry(false, 0, 0, 10000) OUTSIDE; entry(false, 0, 0, -1) OUTSIDE
        wall(0, 0, 0, 5) OUTSIDE; wall(10, 0, 0, 5) OUTSIDE; wall(0, -10, 0, 5) OUTSIDE; wall(0, 0, 10, 5) OUTSIDE; wall(1, 0, 0, 100) OUTSIDE; wall(1, 0, 0, -100) OUTSIDE
        shift(8, 5) UNKNOWN; shift(-1, 5) UNKNOWN; shift(0, 100) OUTSIDE; shift(0, -100) OUTSIDE; shift(7, 100) OUTSIDE
        on(8, true) UNKNOWN; on(8, false) UNKNOWN; on(-1, false) UNKNOWN; on(-1, true) UNKNOWN; on(32, false) UNKNOWN
        corner(4, true) UNKNOWN; wallOf(4, 0) UNKNOWN; wallOf(0, 3) OUTSIDE; slack(4, 0) UNKNOWN; slack(0, 4) UNKNOWN
        about(8, 0) UNKNOWN; about(0, 5) OUTSIDE; vertex(8, 0) UNKNOWN; vertex(0, 3) OUTSIDE; tight(8) UNKNOWN; idle(8) UNKNOWN; shadowAt(4, true) UNKNOWN
        most(100, 0) OUTSIDE; mostOf(0, 100, 0) OUTSIDE; at(0, 0, 100) OUTSIDE; count(5) OUTSIDE; needed(6) NONE; needed(-1) NONE
        seen() 1; fewest() 6; hold() 0; idle(6) 1
        """ + "new\n" + TWELVE_ALIKE + TEN_ALIKE + """
        point(5, 5) FULL; point(51, 5) OUTSIDE; wall(1, 0, 0, 5) FULL; wall(0, 0, 0, 5) OUTSIDE
        wallOf(0, 0) STATE; slack(0, 0) STATE; open() STATE; cover() STATE; fools() STATE; log() STATE; low() STATE; high() STATE; hold() STATE; wrong() STATE
        rims() STATE; idle(0) STATE; shadow() STATE; shadowAt(0, true) STATE; seen() STATE; missed() STATE; beyond() STATE; blow() STATE
        mostOf(0, 0, 0) STATE; at(0, 0, 0) STATE; fewest() NONE; needed(0) NONE
        new
        beyond() STATE; most(0, 0) STATE; blow() STATE
        """);
  }

  private static void numbers(Script s) {
    s.says("Terms", "NONE is -900000009.", """
        points 0 0, 1 0, 0 1
        fewest() -900000009; needed(0) -900000009; needed(-1) -900000009
        entry(true, 0, 0, 1) 0; entry(true, 1, 1, 1) 0; entry(true, 2, 2, 1) 0; entry(false, 0, 2, 1) 0; entry(false, 1, 0, 1) 0; entry(false, 2, 1, 1) 0
        factors(3, 1) 1; hold() 1; wrong() -900000009
        """);
    s.says("Terms", "Numbers told as longs: refusals are told likewise.", """
        vertex(0, 0) -900000001/-900000001; shadowAt(0, true) -900000003/-900000003; blow() -900000003/-900000003; mostOf(0, 0, 0) -900000003/-900000003; mostOf(0, 0, 100) -900000002/-900000002
        """ + BodyRuns.CUBE + """
        vertex(8, 0) -900000001/-900000001; vertex(0, 3) -900000002/-900000002; shadowAt(4, true) -900000001/-900000001; blow() -900000003/-900000003; mostOf(-100, 0, 0) -900000002/-900000002
        """);
    s.says("Terms", "FRACTIONS are told above (upper = true), below (1 and more), in least terms.", """
        walls -6 0 0 4, 4 0 0 -2, 0 9 0 6, 0 -9 0 -6, 0 0 7 0, 0 0 -7 0; spots -2/3 2/3 0/1, -1/2 2/3 0/1
        cast -2/3 2/3, -1/2 2/3; mostOf(-6, 3, 5) 6/1; mostOf(2, 2, 0) 1/3; mostOf(0, 0, 9) 0/1; mostOf(9, -9, 0) -21/2; mostOf(-1, -1, 0) 0/1; mostOf(-1, -2, 0) -2/3
        """ + BodyRuns.CUBE.replace("walls", "new\nwalls") + """
        points 0 0; blow() 0/1; points 6 0; blow() 6/1; shift(0, 4) 1; shift(1, 4) 1; shift(2, 4) 1; shift(3, 4) 1; blow() 3/2; move(1, 0, -8) 1; blow() 2/1
        shift(0, 10) 4; mostOf(4, 0, 0) 40/1; mostOf(-4, 0, 0) 16/1
        """);
  }
}
