/** What the document says of what is greatest on both, and of the counts. */
final class ProgramsRuns {
  private ProgramsRuns() {
  }

  static void play(Script s) {
    figure(s);
    body(s);
    counts(s);
  }

  private static void figure(Script s) {
    s.says("Promise 38", "What p x + q y (-99 to 99 each) is at most in THE FIGURE.", """
        points 50 50; most(99, 99) 9900; most(-99, -99) -9900; most(99, -99) 0; most(0, 0) 0     # one POINT
        points -50 -50; most(99, 99) 9900; most(-99, -99) 9900; most(1, -1) 0                  # a line
        points -50 50; most(-99, 99) 9900; most(99, -99) 0; most(-1, 0) 50
        clear() 3; points -3 -4, -5 -9; most(1, 1) -7; most(-1, -1) 14; most(2, -1) -1; most(-2, 1) 2
        """);
    s.says("Promise 38", "OUTSIDE; STATE: there are no POINTS.", """
        most(0, 0) STATE; most(99, -99) STATE; most(100, 0) OUTSIDE; most(-100, 0) OUTSIDE; most(0, 100) OUTSIDE; most(0, -100) OUTSIDE
        most(2147483647, 0) OUTSIDE; most(0, -2147483648) OUTSIDE; most(256, 0) OUTSIDE; most(0, 65536) OUTSIDE
        points 0 0; most(0, 0) 0; most(100, 0) OUTSIDE; most(-100, 0) OUTSIDE; most(0, 100) OUTSIDE; most(0, -100) OUTSIDE
        clear() 1; most(0, 0) STATE
        """);
  }

  private static void body(Script s) {
    String refused = """
        %1$s(100, 0, 0%2$s) OUTSIDE; %1$s(-100, 0, 0%2$s) OUTSIDE; %1$s(0, 100, 0%2$s) OUTSIDE; %1$s(0, -100, 0%2$s) OUTSIDE
        %1$s(0, 0, 100%2$s) OUTSIDE; %1$s(0, 0, -100%2$s) OUTSIDE; %1$s(2147483647, 0, 0%2$s) OUTSIDE; %1$s(0, -2147483648, 0%2$s) OUTSIDE
        %1$s(256, 0, 0%2$s) OUTSIDE; %1$s(0, 0, 65536%2$s) OUTSIDE
        """;
    String state = """
        %1$s(0, 0, 0%2$s) STATE; %1$s(99, -99, 99%2$s) STATE
        """;
    String run = state + refused + BodyRuns.CUBE + refused + "on(5, false) 1; vertices() 4\n" + state + refused
        + "on(5, true) 0; shift(5, -2) 1; vertices() 0\n" + state + refused;
    s.says("Promise 39", "What p x + q y + s z is at most in THE BODY (-99 to 99 each).", BodyRuns.TIP + """
        mostOf(0, 0, 0) 0; mostOf(99, 99, 99) 693/2; mostOf(-99, -99, 99) 693/5; mostOf(-99, -99, -99) 0; mostOf(4, 6, 10) 14; mostOf(0, 1, 0) 7/3
        mostOf(0, 9, 0) 21; mostOf(0, 6, 10) 14
        shift(3, 0) 7; mostOf(99, 99, 99) 0     # one place
        shift(0, -1) 0; shift(1, -1) 0; shift(2, -1) 0; shift(3, 11) 0; mostOf(-1, -1, -1) -3; mostOf(-99, 0, 0) -99; mostOf(-1, -1, 1) -4/5
        new                                     # as far as it comes
        walls -9 9 9 99, 9 -9 9 99, 9 9 -9 99, -1 -1 -1 99; mostOf(99, 99, 99) 3267; mostOf(99, 0, 0) 1089
        """);
    s.says("Promise 39", "OUTSIDE; STATE: it is not SOUND.", run.formatted("mostOf", ""));
    s.says("Promise 40", "The first VERTEX at which it is.", BodyRuns.CUBE + """
        at(0, 0, 0) 0; at(1, 1, 1) 7; at(-1, -1, -1) 0; at(1, 0, 0) 4; at(-1, 0, 0) 0; at(0, 1, 0) 2; at(0, 0, 1) 1; at(1, 1, 0) 6; at(0, -1, 1) 1
        at(99, 99, 99) 7; at(-99, 99, -99) 2
        """ + "new\n" + BodyRuns.TIP + """
        at(2, 3, 5) 1; at(2, 3, 0) 2; at(99, 99, 99) 3; at(-1, 0, 0) 0; at(0, 0, -99) 0; at(2, 3, 4) 2
        """ + "new\n" + BodyRuns.TEN + """
        at(1, 0, 0) 14; at(1, 1, 0) 11; at(-1, -1, 0) 2; at(0, 0, 1) 6; at(99, 1, 0) 15
        new                                     # two of them, multiplied crosswise, are more than 32 bits hold
        walls 8 -6 9 63, 0 -4 -9 71, 2 9 -3 60, -9 3 -1 97
        spots -6087/281 -8635/281 1621/281, -231/29 4547/899 -9113/899, -231/29 3427/203 5143/203, 1311/77 17/77 -615/77
        at(-99, 99, 99) 2; mostOf(-99, 99, 99) 1008513/203
        """);
    s.says("Promise 40", "As mostOf().", run.formatted("at", ""));
  }

  private static void counts(Script s) {
    s.says("Promise 41", "0 POINTS, 1 WALLS, 2 WALLS that are ON, 3 r, 4 SCALE.", """
        count(0) 0; count(1) 0; count(2) 0; count(3) 1; count(4) 1
        points 1 1, 1 1; count(0) 2; walls 1 0 0 1, 1 0 0 1, 1 0 0 1; count(1) 3; count(2) 3
        on(1, false) 1; count(1) 3; count(2) 2; on(1, false) 0; count(2) 2; on(1, true) 0; count(2) 3; on(1, true) 1; count(2) 3
        factors(8, 999) 1; count(3) 8; count(4) 999; clear() 2; count(0) 0; count(1) 3; count(3) 8
        new
        points 0 0, 0 0, 0 0, 0 0, 0 0, 0 0, 0 0, 0 0, 0 0, 0 0, 0 0, 0 0; point(0, 0) FULL; count(0) 12
        walls 1 0 0 1, 1 0 0 1, 1 0 0 1, 1 0 0 1, 1 0 0 1, 1 0 0 1, 1 0 0 1, 1 0 0 1, 1 0 0 1, 1 0 0 1; wall(1, 0, 0, 1) FULL; count(1) 10; count(2) 10
        """);
    s.says("Promise 41", "OUTSIDE.", """
        count(5) OUTSIDE; count(-1) OUTSIDE; count(2147483647) OUTSIDE; count(-2147483648) OUTSIDE; count(256) OUTSIDE
        """);
  }
}
