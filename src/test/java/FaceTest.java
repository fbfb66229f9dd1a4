import java.lang.reflect.Constructor;
import java.lang.reflect.Field;
import java.lang.reflect.Method;
import java.lang.reflect.Modifier;
import java.nio.file.Files;
import java.nio.file.Path;
import java.util.ArrayList;
import java.util.List;
import java.util.Set;
import java.util.TreeSet;
import java.util.regex.Matcher;
import java.util.regex.Pattern;

/** The document's face, and the rules of LANGUAGE.md that a text or the class itself shows. */
public final class FaceTest {
  private static final Check check = new Check("FaceTest");
  private static final String[] FACE = {
      "int point(int,int)", "int move(int,int,int)", "int clear()", "int corners()", "int corner(int,boolean)",
      "int wallOf(int,int)", "int slack(int,int)", "int area()", "int open()", "int cover()", "int fools()",
      "int log()", "int low()", "int high()", "int factors(int,int)", "int entry(boolean,int,int,int)",
      "int hold()", "int wrong()", "int wall(int,int,int,int)", "int shift(int,int)", "int on(int,boolean)",
      "int about(int,int)", "int sound()", "int vertices()", "long vertex(int,int,boolean)", "int tight(int)",
      "int rims()", "int idle(int)", "int shadow()", "long shadowAt(int,boolean,boolean)", "int seen()",
      "int missed()", "int beyond()", "int fewest()", "int needed(int)", "long blow(boolean)",
      "int most(int,int)", "long mostOf(int,int,int,boolean)", "int at(int,int,int)", "int count(int)"};

  public static void main(String[] args) throws Exception {
    face();
    privates();
    inside();
    room();
    if (args.length > 0) {
      text(Files.readString(Path.of(args[0])));
    }
    check.end();
  }

  private static String told(Method m) {
    List<String> types = new ArrayList<>();
    for (Class<?> type : m.getParameterTypes()) {
      types.add(type.getName());
    }
    return m.getReturnType().getName() + " " + m.getName() + "(" + String.join(",", types) + ")";
  }

  private static void face() {
    Set<String> open = new TreeSet<>();
    for (Method m : GreaterBodies.class.getDeclaredMethods()) {
      if (!Modifier.isPrivate(m.getModifiers())) {
        check.due("access of " + m, m.getModifiers(), Modifier.PUBLIC);
        open.add(told(m));
      }
    }
    Set<String> due = new TreeSet<>(List.of(FACE));
    check.holds("the methods are " + due + ", found " + open, open.equals(due));
    check.due("the class", GreaterBodies.class.getModifiers(), Modifier.PUBLIC | Modifier.FINAL);
    Constructor<?>[] makers = GreaterBodies.class.getDeclaredConstructors();
    check.due("constructors", makers.length, 1);
    check.due("its access", makers[0].getModifiers(), Modifier.PUBLIC);
    check.due("its arguments", makers[0].getParameterCount(), 0);
    Set<String> constants = new TreeSet<>();
    for (Field f : GreaterBodies.class.getDeclaredFields()) {
      if (!Modifier.isPrivate(f.getModifiers())) {
        check.due("access of " + f, f.getModifiers(), Modifier.PUBLIC | Modifier.STATIC | Modifier.FINAL);
        constants.add(f.getType() + " " + f.getName());
      }
    }
    check.holds("the constants, found " + constants, constants.equals(Set.of("int UNKNOWN", "int OUTSIDE", "int STATE", "int FULL", "int NONE")));
  }

  /** No private method, and none of a class inside, has a name of the face. */
  private static void privates() {
    Set<String> names = new TreeSet<>();
    for (String call : FACE) {
      names.add(call.substring(call.indexOf(' ') + 1, call.indexOf('(')));
    }
    List<Method> all = new ArrayList<>();
    for (Method m : GreaterBodies.class.getDeclaredMethods()) {
      if (Modifier.isPrivate(m.getModifiers())) {
        all.add(m);
      }
    }
    for (Class<?> c : GreaterBodies.class.getDeclaredClasses()) {
      all.addAll(List.of(c.getDeclaredMethods()));
    }
    for (Method m : all) {
      check.holds(m + " has a name of its own", !names.contains(m.getName()));
      check.holds(m + " takes seven at most", m.getParameterCount() <= 7);
      check.holds(m + " is no lambda", !m.isSynthetic());
    }
  }

  private static void inside() {
    Class<?>[] classes = GreaterBodies.class.getDeclaredClasses();
    check.holds("twelve classes at most", classes.length + 1 <= 12);
    for (Class<?> c : classes) {
      int access = c.getModifiers();
      check.holds(c + " is static", Modifier.isStatic(access) && !Modifier.isPublic(access) && !Modifier.isProtected(access));
      check.due(c + " has classes inside", c.getDeclaredClasses().length, 0);
      int fields = 0;
      for (Field f : c.getDeclaredFields()) {
        boolean fixed = Modifier.isStatic(f.getModifiers());
        check.holds(f + " is final if static", !fixed || Modifier.isFinal(f.getModifiers()));
        fields += fixed ? 0 : 1;
      }
      check.holds(c + " has twenty fields at most", fields <= 20);
    }
  }

  /** Comments fall away: their words are free. */
  private static void text(String source) {
    String bare = source.replaceAll("(?s)/\\*.*?\\*/", " ").replaceAll("//[^\n]*", " ");
    String[] words = {"throw", "throws", "try", "catch", "finally", "synchronized", "assert", "import", "package", "instanceof",
        "System", "Object", "native", "volatile", "transient", "strictfp", "var", "Exception", "Thread", "Random"};
    for (String word : words) {
      check.holds("no " + word, !Pattern.compile("\\b" + word + "\\b").matcher(bare).find());
    }
    for (String sign : new String[] {"->", "::", "\"", "@", "Exact("}) {
      check.holds("no " + sign, !bare.contains(sign));
    }
    Matcher library = Pattern.compile("\\b(Math|Integer|Long|Arrays|String|List)\\.(\\w+)").matcher(bare);
    while (library.find()) {
      check.holds("library: " + library.group(), Set.of("Math.max", "Math.min", "Math.abs", "Integer.bitCount", "Long.compare").contains(library.group()));
    }
    check.holds("signs 10, 32 to 126 alone", source.chars().allMatch(c -> c == 10 || c >= 32 && c <= 126));
    shortMethods(source);
  }

  /** Methods end at a brace as deep as they begin. */
  private static void shortMethods(String source) {
    Matcher m = Pattern.compile("(?m)^( {2}| {4})(?!return|if|for|while|else|switch|private static final class)[a-z][^;=\n]*\\) \\{\n(?s:.*?)^\\1\\}").matcher(source);
    int found = 0;
    while (m.find()) {
      found++;
      String method = m.group();
      check.holds(method.substring(0, method.indexOf('\n')) + " is of sixty lines at most", method.lines().count() <= 60);
    }
    check.holds("methods were found: " + found, found > 100);
  }

  /** The arrays of one object are few and short; no call after it needs to make any. */
  private static void room() throws Exception {
    long[] sum = new long[2];
    weigh(new GreaterBodies(), sum);
    check.holds("objects and arrays of one: " + sum[0], sum[0] <= 60);
    check.holds("fields and elements of one: " + sum[1], sum[1] <= 3000);
  }

  private static void weigh(Object of, long[] sum) throws Exception {
    sum[0]++;
    for (Field f : of.getClass().getDeclaredFields()) {
      if (Modifier.isStatic(f.getModifiers())) {
        continue;
      }
      sum[1]++;
      f.setAccessible(true);
      Object value = f.get(of);
      if (value instanceof int[] row) {
        sum[0]++;
        sum[1] += row.length;
      } else if (!f.getType().isPrimitive()) {
        weigh(value, sum);
      }
    }
  }
}
