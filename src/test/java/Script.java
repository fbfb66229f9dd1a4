import java.lang.reflect.Method;
import java.lang.reflect.Modifier;
import java.util.ArrayList;
import java.util.List;

/**
 * Plays runs of calls, written down beside the sentence of the document that they show.
 *
 * A run is lines, or parts between semicolons: a call with the answer that is due
 * ("move(3, 0, 0) UNKNOWN"); "new" for a new object; "points x y, x y" and "walls a b c d, .."
 * for points and walls that all are taken, with their numbers. A call that tells a fraction
 * leaves its last argument out and is asked for both numbers ("blow() 6/13", "blow() STATE").
 * Whole tables: "round x y, .." all corners, "lines a b c, .." their walls, "gaps .., .." the
 * slack edge by edge, "spots x y z, .." all vertices, "tights .." what is tight at them,
 * "cast x y, .." the corners of the shadow, "chosen .." the fewest walls ("chosen none").
 * What stands behind # is a remark.
 *
 * After each call that asks, and after each that is refused, all that an object answers is
 * compared with what another object answers that was not called so.
 */
final class Script {
  private static final int MOST_CALLS = 512;
  /** With the many calls that ask for all answers there are no more than an object is used for. */
  private static final int MOST_REPEATED = 120;
  private static final List<String> CHANGERS = List.of("point", "move", "clear", "factors", "entry", "wall", "shift", "on");
  private static final List<String> REFUSALS = List.of("UNKNOWN", "OUTSIDE", "STATE", "FULL");

  private record Call(Method method, Object[] arguments) {
    long of(GreaterBodies g) throws ReflectiveOperationException {
      return ((Number) method.invoke(g, arguments)).longValue();
    }
  }

  private final Check check;
  private final Sentences sentences;
  private String where = "";
  private GreaterBodies g;
  /** The calls that changed the object. */
  private final List<Call> history = new ArrayList<>();
  private int calls;
  private List<Long> told;
  private int points;
  private int walls;

  Script(Check check, Sentences sentences) {
    this.check = check;
    this.sentences = sentences;
  }

  /** What stands at a place of the document ("Terms", "Promise 2"), and runs that show it. */
  void says(String place, String sentence, String runs) {
    sentences.quote(place, sentence);
    where = place + ": " + sentence + "\n    ";
    begin();
    for (String line : runs.split("\n")) {
      int remark = line.indexOf('#');
      for (String part : (remark < 0 ? line : line.substring(0, remark)).split(";")) {
        if (!part.isBlank()) {
          play(part.trim());
        }
      }
    }
  }

  private void begin() {
    g = new GreaterBodies();
    history.clear();
    calls = 0;
    told = null;
    points = 0;
    walls = 0;
  }

  private void play(String part) {
    int gap = part.indexOf(' ');
    if (part.equals("new")) {
      begin();
    } else if (gap < 0 || part.indexOf('(') >= 0) {
      call(part);
    } else {
      table(part.substring(0, gap), part.substring(gap + 1).trim().split(" *, *"));
    }
  }

  private void table(String name, String[] rows) {
    switch (name) {
      case "points", "walls" -> all(name.substring(0, name.length() - 1), rows);
      case "round" -> round(rows[0].equals("none") ? new String[0] : rows);
      case "lines" -> every("wallOf", rows, "0", "1", "2");
      case "gaps" -> gaps(rows);
      case "spots" -> spots(rows);
      case "tights" -> every("tight", rows[0].split(" +"), "");
      case "cast" -> cast(rows);
      case "chosen" -> chosen(rows[0].equals("none") ? new String[0] : rows[0].split(" +"));
      default -> check.due(where + name + " is no word", 1, 0);
    }
  }

  private void all(String name, String[] rows) {
    for (String row : rows) {
      call(name + "(" + row.replaceAll(" +", ", ") + ") " + (name.equals("point") ? points : walls));
    }
  }

  /** One call for each row and each of the row's numbers. */
  private void every(String name, String[] rows, String... seconds) {
    for (int i = 0; i < rows.length; i++) {
      String[] numbers = rows[i].split(" +");
      check.due(where + name + ": numbers in a row", numbers.length, seconds.length);
      for (int k = 0; k < numbers.length; k++) {
        call(name + "(" + i + (seconds[k].isEmpty() ? "" : ", " + seconds[k]) + ") " + numbers[k]);
      }
    }
  }

  private void round(String[] rows) {
    call("corners() " + rows.length);
    every("corner", rows, "false", "true");
    call("corner(" + rows.length + ", false) UNKNOWN");
    call("corner(-1, true) UNKNOWN");
  }

  private void gaps(String[] rows) {
    String[] corners = new String[rows.length];
    for (int i = 0; i < rows.length; i++) {
      corners[i] = String.valueOf(i);
    }
    every("slack", rows, corners);
  }

  private void spots(String[] rows) {
    call("vertices() " + rows.length);
    every("vertex", rows, "0", "1", "2");
    call("vertex(" + rows.length + ", 0) UNKNOWN");
    call("vertex(-1, 2) UNKNOWN");
  }

  private void cast(String[] rows) {
    call("shadow() " + rows.length);
    every("shadowAt", rows, "false", "true");
    call("shadowAt(" + rows.length + ", false) UNKNOWN");
    call("shadowAt(-1, true) UNKNOWN");
  }

  private void chosen(String[] walls) {
    call("fewest() " + (walls.length == 0 ? "NONE" : String.valueOf(walls.length)));
    every("needed", walls, "");
    call("needed(" + walls.length + ") NONE");
    call("needed(-1) NONE");
  }

  private void call(String text) {
    try {
      int open = text.indexOf('(');
      int close = text.indexOf(')');
      String name = text.substring(0, open);
      String inside = text.substring(open + 1, close).trim();
      String[] arguments = inside.isEmpty() ? new String[0] : inside.split(" *, *");
      String due = text.substring(close + 1).trim();
      Method method = find(name);
      if (arguments.length == method.getParameterCount()) {
        ask(method, arguments, due);
        return;
      }
      boolean isRefused = Character.isLetter(due.charAt(0));
      String[] both = due.contains("/") ? due.split("/") : new String[] {due, isRefused ? due : "1"};
      ask(method, with(arguments, "true"), both[0]);
      ask(method, with(arguments, "false"), both[1]);
    } catch (ReflectiveOperationException | RuntimeException e) {
      check.due(where + text + " ended with " + e + " of " + e.getCause(), 1, 0);
    }
  }

  private static String[] with(String[] arguments, String last) {
    String[] more = java.util.Arrays.copyOf(arguments, arguments.length + 1);
    more[arguments.length] = last;
    return more;
  }

  private static Method find(String name) throws ReflectiveOperationException {
    for (Method m : GreaterBodies.class.getDeclaredMethods()) {
      if (Modifier.isPublic(m.getModifiers()) && m.getName().equals(name)) {
        return m;
      }
    }
    throw new NoSuchMethodException(name);
  }

  private static long number(String due) throws ReflectiveOperationException {
    boolean isName = Character.isLetter(due.charAt(0));
    return isName ? GreaterBodies.class.getField(due).getInt(null) : Long.parseLong(due);
  }

  private void ask(Method method, String[] arguments, String due) throws ReflectiveOperationException {
    Object[] values = new Object[arguments.length];
    for (int i = 0; i < values.length; i++) {
      boolean isInt = method.getParameterTypes()[i] == int.class;
      values[i] = isInt ? (Object) Integer.valueOf(arguments[i]) : (Object) Boolean.valueOf(word(arguments[i]));
    }
    Call call = new Call(method, values);
    String text = where + method.getName() + "(" + String.join(", ", arguments) + ")";
    check.due(text, call.of(g), number(due));
    calls++;
    check.holds(text + " is one of " + MOST_CALLS + " calls at most", calls <= MOST_CALLS);
    boolean changes = CHANGERS.contains(method.getName()) && !REFUSALS.contains(due);
    if (changes) {
      count(method.getName());
      history.add(call);
      told = null;
    } else if (history.size() <= MOST_REPEATED) {
      told = told == null ? all(null) : told;
      check.holds(text + " changes nothing", all(call).equals(told));
    }
  }

  private static String word(String truth) {
    if (!truth.equals("true") && !truth.equals("false")) {
      throw new IllegalArgumentException("neither true nor false: " + truth);
    }
    return truth;
  }

  private void count(String name) {
    points = name.equals("point") ? points + 1 : name.equals("clear") ? 0 : points;
    walls = name.equals("wall") ? walls + 1 : walls;
  }

  // ---- all that an object answers

  /** An object that was called as this one was where calls changed it, and in one way more. */
  private GreaterBodies again(Call last) throws ReflectiveOperationException {
    GreaterBodies other = new GreaterBodies();
    for (Call call : history) {
      call.of(other);
    }
    if (last != null) {
      last.of(other);
    }
    return other;
  }

  private List<Long> all(Call last) throws ReflectiveOperationException {
    List<Long> all = new ArrayList<>();
    figure(again(last), all);
    body(again(last), all);
    tables(again(last), all);
    for (int i = 0; i < points; i++) {
      onePoint(again(last), i, all);
    }
    return all;
  }

  private static void add(List<Long> all, long... answers) {
    for (long answer : answers) {
      all.add(answer);
    }
  }

  private static void figure(GreaterBodies g, List<Long> all) {
    add(all, g.count(0), g.count(1), g.count(2), g.count(3), g.count(4), g.corners(), g.area(), g.open(), g.cover(), g.fools());
    add(all, g.log(), g.low(), g.high(), g.hold(), g.wrong(), g.most(7, -3));
    for (int i = 0; i < g.corners(); i++) {
      add(all, g.corner(i, false), g.corner(i, true), g.wallOf(i, 0), g.wallOf(i, 1), g.wallOf(i, 2), g.slack(i, 0));
    }
  }

  private static void body(GreaterBodies g, List<Long> all) {
    add(all, g.sound(), g.vertices(), g.rims(), g.shadow(), g.seen(), g.missed(), g.beyond(), g.fewest());
    add(all, g.blow(true), g.blow(false), g.mostOf(3, -2, 1, true), g.mostOf(3, -2, 1, false), g.at(3, -2, 1));
    for (int i = 0; i < 10; i++) {
      add(all, g.needed(i), g.idle(i), g.about(i, 0), g.about(i, 1), g.about(i, 2), g.about(i, 3), g.about(i, 4));
    }
    for (int i = 0; i < g.vertices(); i++) {
      add(all, g.tight(i), g.vertex(i, 0, true), g.vertex(i, 0, false), g.vertex(i, 1, true), g.vertex(i, 1, false));
      add(all, g.vertex(i, 2, true), g.vertex(i, 2, false));
    }
    for (int i = 0; i < g.shadow(); i++) {
      add(all, g.shadowAt(i, false, true), g.shadowAt(i, false, false), g.shadowAt(i, true, true), g.shadowAt(i, true, false));
    }
  }

  private static void tables(GreaterBodies g, List<Long> all) {
    for (int i = 0; i < 12; i++) {
      for (int k = 0; k < 8; k++) {
        add(all, g.entry(true, i, k, 0), g.entry(false, k, i, 0));
      }
    }
  }

  /** A point that is no corner shows when all others are elsewhere. */
  private void onePoint(GreaterBodies g, int point, List<Long> all) {
    for (int i = 0; i < points; i++) {
      if (i != point) {
        g.move(i, 0, 0);
      }
    }
    for (int i = 0; i < g.corners(); i++) {
      add(all, g.corner(i, false), g.corner(i, true));
    }
  }
}
