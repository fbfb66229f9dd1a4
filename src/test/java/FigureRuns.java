/** A new object, and what the document says of the figure. */
final class FigureRuns {
  private FigureRuns() {
  }

  static void play(Script s) {
    newObject(s);
    points(s);
    corners(s);
    edges(s);
    callsThatChange(s);
    callsThatAsk(s);
  }

  private static void newObject(Script s) {
    s.says("Promise 1", "No POINTS, no WALLS; r 1, SCALE 1.", """
        count(0) 0; count(1) 0; count(2) 0; count(3) 1; count(4) 1
        round none; area() 0; vertices() 0; sound() 0; chosen none
        move(0, 0, 0) UNKNOWN; shift(0, 0) UNKNOWN; on(0, true) UNKNOWN; about(0, 0) UNKNOWN
        most(0, 0) STATE; shadow() STATE; blow() STATE; mostOf(0, 0, 0) STATE
        new
        clear() 0; point(1, 1) 0; wall(1, 1, 1, 1) 0
        new
        factors(2, 2) 1
        """);
  }

  private static void points(Script s) {
    s.says("Terms", "THE FIGURE is that of POINTS 0, 1, .. (12 at most; whole x, y, -50 to 50).", """
        point(50, 50) 0; point(-50, -50) 1; point(50, -50) 2; point(-50, 50) 3
        round -50 -50, 50 -50, 50 50, -50 50; area() 20000
        point(51, 0) OUTSIDE; point(-51, 0) OUTSIDE; point(0, 51) OUTSIDE; point(0, -51) OUTSIDE
        point(2147483647, 0) OUTSIDE; point(-2147483648, 0) OUTSIDE
        point(0, 2147483647) OUTSIDE; point(0, -2147483648) OUTSIDE
        point(256, 0) OUTSIDE; point(0, 65536) OUTSIDE; point(-65536, 256) OUTSIDE   # 0, if bits were cut off
        count(0) 4
        points 0 0, 1 0, 2 0, 3 0, 4 0, 5 0, 6 0, 7 0; count(0) 12
        point(8, 0) FULL; point(50, 50) FULL; count(0) 12
        round -50 -50, 50 -50, 50 50, -50 50
        """);
    s.says("Promise 2", "A POINT: its number.", """
        point(0, 0) 0; point(0, 0) 1; point(-50, 50) 2
        clear() 3; point(9, 9) 0; point(8, 8) 1; round 8 8, 9 9
        """);
    s.says("Promise 2", "OUTSIDE; FULL: 12.", """
        points 0 0, 1 1, 2 2, 3 3, 4 4, 5 5, 6 6, 7 7, 8 8, 9 9, 10 10
        count(0) 11; point(11, 51) OUTSIDE; point(11, 11) 11
        point(12, 12) FULL; point(0, 0) FULL; point(51, 0) OUTSIDE; point(0, -51) OUTSIDE
        round 0 0, 11 11
        move(11, 1, 0) 1; point(12, 12) FULL
        clear() 12; point(12, 12) 0; round 12 12
        """);
  }

  private static void corners(Script s) {
    s.says("Terms", "Its CORNERS are POINTS that are not between others of it (each place once),", """
        points 3 3; round 3 3
        point(3, 3) 1; round 3 3
        new                                     # each of three places twice
        points 0 0, 9 0, 0 9, 0 0, 9 0, 0 9; round 0 0, 9 0, 0 9
        new                                     # within, on a rim, and just beyond it
        points -50 -1, 50 1, 0 50, 0 1; round -50 -1, 50 1, 0 50
        move(3, 0, 0) 1; round -50 -1, 50 1, 0 50
        move(3, 1, 0) 1; round -50 -1, 1 0, 50 1, 0 50
        move(3, -1, 0) 1; round -50 -1, 50 1, 0 50
        move(3, 0, -1) 1; round -50 -1, 0 -1, 50 1, 0 50
        new                                     # of a line the ends alone
        points 2 1, 6 3, 4 2, 0 0, 2 1; round 0 0, 6 3
        new                                     # twelve of one place
        points 7 -7, 7 -7, 7 -7, 7 -7, 7 -7, 7 -7, 7 -7, 7 -7, 7 -7, 7 -7, 7 -7, 7 -7; round 7 -7
        move(11, 7, -6) 1; round 7 -7, 7 -6
        new                                     # on all four rims
        points 0 0, 2 0, 4 0, 4 2, 4 4, 2 4, 0 4, 0 2, 2 2; round 0 0, 4 0, 4 4, 0 4
        """);
    s.says("Terms", "numbered against the clock from that of the least x (of like ones the least y).", """
        points 0 7, 9 7, 9 -7, 0 -7, 0 0; round 0 -7, 9 -7, 9 7, 0 7
        new
        points 4 0, 0 0, -1 50; round -1 50, 0 0, 4 0
        new
        points 4 0, 0 0, -1 -50; round -1 -50, 4 0, 0 0
        new
        points 5 9, 5 -9, 5 0; round 5 -9, 5 9
        new
        points 6 -3, 0 0, 2 -1; round 0 0, 6 -3
        new
        points 4 6, 0 0, 6 3, -2 3, 4 0, 0 6; round -2 3, 0 0, 4 0, 6 3, 4 6, 0 6
        """);
    s.says("Terms", "With fewer than 3 of them it is FLAT.", """
        round none; area() 0; open() STATE; cover() STATE; high() STATE; hold() STATE; wrong() STATE
        points 1 1; round 1 1; area() 0; open() STATE; cover() STATE; high() STATE; hold() STATE; wrong() STATE
        points 2 2; round 1 1, 2 2; area() 0; open() STATE; cover() STATE; high() STATE; hold() STATE; wrong() STATE
        points 3 3; round 1 1, 3 3; area() 0; open() STATE; cover() STATE; high() STATE; hold() STATE; wrong() STATE
        move(2, 3, 4) 1; round 1 1, 2 2, 3 4; area() 1; open() 3; cover() 3; high() 3; hold() 0; wrong() 2
        """);
  }

  private static void edges(Script s) {
    s.says("Terms", "EDGE i goes from CORNER i to the next one (round); its WALL a x + b y <= c: (a, b) is the step"
        + " from the one to the other, turned: (its y, less its x), in least whole numbers, and c what it is at both.", """
        points 0 0, 4 0, 0 4; lines 0 -1 0, 1 1 4, -1 0 0           # the last goes round to CORNER 0
        new
        points 10 10, 14 10, 10 14; lines 0 -1 -10, 1 1 24, -1 0 -10
        new
        points -50 -50, 50 -50, 50 50, -50 50; lines 0 -1 50, 1 0 50, 0 1 50, -1 0 50
        new                                     # 100 and 99 are in least numbers
        points -50 -50, 50 49, -50 50; lines 99 -100 50, 1 100 4950, -1 0 50
        new
        points 0 0, 6 4, -3 9; lines -3 -1 0, 2 -3 0, 5 9 66
        new
        points 0 0, 1 0, 0 1; lines 0 -1 0, 1 1 1, -1 0 0
        """);
    s.says("Terms", "SLACK of EDGE i and CORNER j: c less a x less b y there.", """
        points 0 0, 4 0, 0 4; gaps 0 0 4, 4 0 0, 0 4 0
        new
        points 0 0, 1 0, 0 1; gaps 0 0 1, 1 0 0, 0 1 0
        new
        points 0 0, 6 4, -3 9; gaps 0 0 22, 33 0 0, 0 66 0
        new                                     # the greatest
        points -50 -50, 50 49, -50 50; gaps 0 0 10000, 10000 0 0, 0 100 0
        new
        points -3 -2, 3 -2, 3 2, -3 2; gaps 0 0 4 4, 6 0 0 6, 4 4 0 0, 0 6 6 0
        """);
  }

  private static void callsThatChange(Script s) {
    s.says("Promise 3", "A POINT is moved: 1.", """
        points 0 0, 4 0, 0 4; move(1, 8, 0) 1; round 0 0, 8 0, 0 4
        move(1, 8, 0) 1; round 0 0, 8 0, 0 4; count(0) 3          # to where it is
        move(1, 0, 4) 1; round 0 0, 0 4; count(0) 3               # to where another is
        move(0, -50, -50) 1; move(1, 50, -50) 1; move(2, 50, 50) 1; round -50 -50, 50 -50, 50 50
        new
        points 0 0, 0 0, 0 0, 0 0, 0 0, 0 0, 0 0, 0 0, 0 0, 0 0, 0 0, 0 0; move(11, 1, 2) 1; round 0 0, 1 2
        """);
    s.says("Promise 3", "UNKNOWN; OUTSIDE.", """
        move(0, 0, 0) UNKNOWN; move(0, 51, 0) UNKNOWN
        points 0 0, 4 0, 0 4
        move(3, 1, 1) UNKNOWN; move(-1, 1, 1) UNKNOWN; move(12, 1, 1) UNKNOWN
        move(2147483647, 1, 1) UNKNOWN; move(-2147483648, 1, 1) UNKNOWN; move(256, 1, 1) UNKNOWN
        move(3, 51, 0) UNKNOWN; move(-1, 0, -51) UNKNOWN
        move(2, 51, 0) OUTSIDE; move(2, -51, 0) OUTSIDE; move(2, 0, 51) OUTSIDE; move(2, 0, -51) OUTSIDE
        move(0, 2147483647, 0) OUTSIDE; move(0, 0, -2147483648) OUTSIDE; move(0, 65536, 0) OUTSIDE
        round 0 0, 4 0, 0 4
        clear() 3; move(0, 1, 1) UNKNOWN
        """);
    s.says("Promise 4", "All POINTS are taken away: how many there were.", """
        clear() 0; clear() 0
        points 5 5; clear() 1; round none; clear() 0
        points 0 0, 4 0, 0 4, 1 1, 0 0; clear() 5; count(0) 0; round none; corner(0, false) UNKNOWN; move(0, 1, 1) UNKNOWN
        points 1 1, 2 2; round 1 1, 2 2
        new                                     # all twelve; nothing else goes
        points 0 0, 1 0, 2 0, 3 0, 4 0, 5 0, 6 0, 7 0, 8 0, 9 0, 0 1, 1 1
        walls 1 2 3 4; on(0, false) 1; factors(3, 5) 1; entry(true, 11, 7, 6) 0; entry(false, 7, 11, 7) 0
        clear() 12
        count(0) 0; count(1) 1; count(2) 0; count(3) 3; count(4) 5
        about(0, 0) 1; about(0, 1) 2; about(0, 2) 3; about(0, 3) 4; about(0, 4) 0
        entry(true, 11, 7, 0) 6; entry(false, 7, 11, 0) 7
        points 0 0, 1 0, 2 0, 3 0, 4 0, 5 0, 6 0, 7 0, 8 0, 9 0, 0 1, 1 1; point(0, 0) FULL
        """);
  }

  private static void callsThatAsk(Script s) {
    s.says("Promise 5", "How many CORNERS THE FIGURE has (fewer than 3: it is FLAT).", """
        corners() 0; point(0, 0) 0; corners() 1; point(0, 0) 1; corners() 1; point(1, 0) 2; corners() 2
        point(2, 0) 3; corners() 2; point(0, 1) 4; corners() 3; clear() 5; corners() 0
        new
        points -50 -1, -49 -5, -40 -20, -20 -35, 0 -40, 20 -36, 40 -22, 48 -8, 50 0, 30 40, 0 50; corners() 11
        points -30 45; corners() 12
        """);
    s.says("Promise 6", "x of a CORNER (y = false), y.", """
        points -50 50, 50 -50; corner(0, false) -50; corner(0, true) 50; corner(1, false) 50; corner(1, true) -50
        new
        points 3 -4; corner(0, false) 3; corner(0, true) -4
        """);
    s.says("Promise 6", "UNKNOWN.", """
        corner(0, false) UNKNOWN; corner(-1, false) UNKNOWN
        points 0 0, 4 0, 0 4, 1 1               # a POINT that is no CORNER
        corner(2, true) 4; corner(3, true) UNKNOWN; corner(4, false) UNKNOWN; corner(-1, true) UNKNOWN
        corner(2147483647, false) UNKNOWN; corner(-2147483648, true) UNKNOWN; corner(256, false) UNKNOWN
        move(2, 8, 0) 1; corner(2, true) 1; move(3, 2, 0) 1; corner(2, true) UNKNOWN; corner(1, false) 8
        """);
    s.says("Promise 7", "a (what = 0), b (1), c (2) of the WALL of an EDGE.", """
        points -50 -50, 50 49, -50 50; wallOf(0, 0) 99; wallOf(0, 1) -100; wallOf(0, 2) 50; wallOf(2, 2) 50
        """);
    s.says("Promise 7", "UNKNOWN; STATE: it is FLAT; OUTSIDE.", """
        wallOf(0, 0) UNKNOWN; wallOf(0, 3) UNKNOWN
        points 1 1; wallOf(0, 0) STATE; wallOf(0, 3) STATE; wallOf(0, -1) STATE; wallOf(1, 0) UNKNOWN; wallOf(-1, 9) UNKNOWN
        points 5 5; wallOf(0, 2) STATE; wallOf(1, 2) STATE; wallOf(1, 3) STATE; wallOf(2, 2) UNKNOWN; wallOf(2, 3) UNKNOWN
        points 1 5; wallOf(2, 0) -1; wallOf(3, 0) UNKNOWN; wallOf(3, 3) UNKNOWN; wallOf(-1, 0) UNKNOWN; wallOf(-1, -1) UNKNOWN
        wallOf(2, 3) OUTSIDE; wallOf(0, -1) OUTSIDE; wallOf(0, 2147483647) OUTSIDE; wallOf(0, -2147483648) OUTSIDE; wallOf(0, 256) OUTSIDE
        wallOf(2147483647, 0) UNKNOWN; wallOf(-2147483648, 0) UNKNOWN; wallOf(256, 0) UNKNOWN
        """);
    s.says("Promise 8", "SLACK.", """
        points -50 -50, 50 49, -50 50; slack(0, 2) 10000; slack(1, 0) 10000; slack(2, 1) 100; slack(2, 2) 0; slack(2, 0) 0
        new                                     # the last EDGE of twelve, from the last CORNER to the first
        points -50 -1, -49 -5, -40 -20, -20 -35, 0 -40, 20 -36, 40 -22, 48 -8, 50 0, 30 40, 0 50, -30 45
        slack(11, 11) 0; slack(11, 0) 0; slack(11, 1) 63; slack(0, 11) 126
        slack(12, 0) UNKNOWN; slack(0, 12) UNKNOWN
        """);
    s.says("Promise 8", "UNKNOWN; STATE: it is FLAT.", """
        slack(0, 0) UNKNOWN
        points 1 1; slack(0, 0) STATE; slack(1, 0) UNKNOWN; slack(0, 1) UNKNOWN; slack(-1, 0) UNKNOWN; slack(0, -1) UNKNOWN
        points 5 5; slack(1, 1) STATE; slack(0, 1) STATE; slack(2, 0) UNKNOWN; slack(0, 2) UNKNOWN
        points 1 5, 2 3; slack(2, 2) 0; slack(3, 2) UNKNOWN; slack(2, 3) UNKNOWN; slack(3, 3) UNKNOWN
        slack(-1, 0) UNKNOWN; slack(0, -1) UNKNOWN; slack(2147483647, 0) UNKNOWN; slack(0, 2147483647) UNKNOWN
        slack(-2147483648, 0) UNKNOWN; slack(0, -2147483648) UNKNOWN; slack(256, 0) UNKNOWN; slack(0, 256) UNKNOWN
        """);
    s.says("Promise 9", "Twice the area of THE FIGURE.", """
        area() 0; points 40 40; area() 0; points 41 41; area() 0; points 43 43; area() 0
        move(2, 42, 43) 1; area() 1; move(2, 40, 50) 1; area() 10
        new
        points 50 50, -50 50, -50 -50, 50 -50, 0 0; area() 20000; clear() 5; area() 0
        """);
  }
}
