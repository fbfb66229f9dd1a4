import java.io.IOException;
import java.lang.reflect.Method;
import java.lang.reflect.Modifier;
import java.nio.file.Files;
import java.nio.file.Path;
import java.util.ArrayList;
import java.util.LinkedHashMap;
import java.util.LinkedHashSet;
import java.util.List;
import java.util.Map;
import java.util.Set;
import java.util.regex.Matcher;
import java.util.regex.Pattern;
import java.util.stream.Stream;

/**
 * README.md against the class and the document: the examples answer as the page says, each call
 * of the document's face has one row with the refusals that its promise names, in their order,
 * the constants are as told, and every test has a word.
 * Arguments as .ci/run gives them: the class's file, the document, the page.
 */
public final class ReadmeTest {
  private static final Check check = new Check("ReadmeTest");
  private static final String NEW = "GreaterBodies g = new GreaterBodies();";
  private static final Pattern CALL = Pattern.compile("g\\.(\\w+)\\(([^()]*)\\);");
  private static final Pattern LINE = Pattern.compile("((?:g\\.\\w+\\([^()]*\\); *)+)// ([^:]*)(?:: .*)?");
  private static final Pattern ROW = Pattern.compile("\\| `(\\w+)\\(([^)]*)\\)` \\| ([^|]+) \\|([^|]*)\\|");
  private static final Pattern REFUSAL = Pattern.compile("\\b(UNKNOWN|OUTSIDE|STATE|FULL)\\b");

  private ReadmeTest() {
  }

  public static void main(String[] args) throws IOException {
    Path page = Path.of(args.length > 2 ? args[2] : "README.md");
    Path document = Path.of(args.length > 1 ? args[1] : "../shared/DOC.md");
    String readme = Files.readString(page);
    examples(readme);
    rows(readme, Files.readString(document));
    constants(readme);
    tests(readme, page.toAbsolutePath().resolveSibling("src/test/java"));
    check.end();
  }

  // ---- the examples

  private static void examples(String readme) {
    Set<String> shown = new LinkedHashSet<>();
    Matcher block = Pattern.compile("(?s)```java\n(.*?)```").matcher(readme);
    GreaterBodies g = null;
    while (block.find()) {
      for (String line : block.group(1).split("\n")) {
        if (line.equals(NEW)) {
          g = new GreaterBodies();
        } else {
          play(g, line, shown);
        }
      }
    }
    for (Method m : face()) {
      check.holds("an example calls " + m.getName(), shown.contains(m.getName()));
    }
  }

  /** Calls, and behind them as many answers. */
  private static void play(GreaterBodies g, String line, Set<String> shown) {
    Matcher parts = LINE.matcher(line);
    check.holds("is an example: " + line, g != null && parts.matches());
    if (g == null || !parts.matches()) {
      return;
    }
    String[] answers = parts.group(2).trim().split(", ");
    Matcher call = CALL.matcher(parts.group(1));
    int calls = 0;
    while (call.find()) {
      String due = calls < answers.length ? answers[calls] : "";
      check.holds(call.group() + " has an answer: " + line, !due.isEmpty());
      check.holds(call.group() + " // " + due + ", got " + answer(g, call), String.valueOf(answer).equals(due) || due.equals(name(answer)));
      shown.add(call.group(1));
      calls++;
    }
    check.due("answers of: " + line, answers.length, calls);
  }

  /** What the latest call answered. */
  private static long answer;

  private static long answer(GreaterBodies g, Matcher call) {
    String[] words = call.group(2).isEmpty() ? new String[0] : call.group(2).split(", ");
    answer = Long.MIN_VALUE;
    for (Method m : face()) {
      if (m.getName().equals(call.group(1)) && m.getParameterCount() == words.length) {
        answer = invoke(m, g, words);
      }
    }
    return answer;
  }

  private static long invoke(Method m, GreaterBodies g, String[] words) {
    Object[] values = new Object[words.length];
    for (int i = 0; i < words.length; i++) {
      boolean isTruth = words[i].equals("true") || words[i].equals("false");
      values[i] = isTruth ? (Object) Boolean.valueOf(words[i]) : (Object) Integer.valueOf(words[i]);
    }
    try {
      return ((Number) m.invoke(g, values)).longValue();
    } catch (ReflectiveOperationException | IllegalArgumentException e) {
      check.due(m.getName() + List.of(words) + " ended with " + e, 1, 0);
      return Long.MIN_VALUE;
    }
  }

  private static List<Method> face() {
    List<Method> face = new ArrayList<>();
    for (Method m : GreaterBodies.class.getDeclaredMethods()) {
      if (Modifier.isPublic(m.getModifiers())) {
        face.add(m);
      }
    }
    return face;
  }

  private static String name(long number) {
    if (number == GreaterBodies.UNKNOWN) {
      return "UNKNOWN";
    }
    if (number == GreaterBodies.OUTSIDE) {
      return "OUTSIDE";
    }
    if (number == GreaterBodies.STATE) {
      return "STATE";
    }
    if (number == GreaterBodies.FULL) {
      return "FULL";
    }
    return number == GreaterBodies.NONE ? "NONE" : "no constant";
  }

  // ---- the tables

  private static void rows(String readme, String document) {
    Map<String, String> calls = calls(document);
    check.due("calls of the document's face", calls.size(), face().size());
    Map<String, String> promises = promises(document);
    List<String> told = new ArrayList<>();
    Matcher row = ROW.matcher(readme);
    while (row.find()) {
      String call = row.group(1) + "(" + row.group(2) + ")";
      check.holds("the row of " + call + " is one of " + calls.get(row.group(1)), call.equals(calls.get(row.group(1))));
      String due = String.join(", ", refusals(promises, row.group(1)));
      check.holds("the refusals of " + call + " are " + due, row.group(4).trim().equals(due));
      check.holds("NONE in the row of " + call, row.group(3).contains("NONE") == promises.getOrDefault(row.group(1), "").contains("NONE"));
      told.add(row.group(1));
    }
    check.holds("rows " + told + " are those of the face " + calls.keySet(), told.equals(new ArrayList<>(calls.keySet())));
  }

  /** The calls by their names, as the document's face has them: without types. */
  private static Map<String, String> calls(String document) {
    Map<String, String> calls = new LinkedHashMap<>();
    Matcher call = Pattern.compile("(?m)^ +public (?:int|long) (\\w+)\\((.*)\\);$").matcher(document);
    while (call.find()) {
      calls.put(call.group(1), call.group(1) + "(" + call.group(2).replaceAll("(int|boolean) ", "") + ")");
    }
    return calls;
  }

  /** What the promises say, by the calls' names. */
  private static Map<String, String> promises(String document) {
    Map<String, String> promises = new LinkedHashMap<>();
    Matcher promise = Pattern.compile("(?m)^`(?:int|long) (\\w+)\\(.*?\\)`: (.*)$").matcher(document);
    while (promise.find()) {
      promises.put(promise.group(1), promise.group(2));
    }
    return promises;
  }

  private static Set<String> refusals(Map<String, String> promises, String call) {
    String says = promises.getOrDefault(call, "");
    Matcher like = Pattern.compile("[Aa]s (\\w+)\\(\\)").matcher(says);
    if (like.find()) {
      says = promises.getOrDefault(like.group(1), "");
    }
    Set<String> refusals = new LinkedHashSet<>();
    Matcher refusal = REFUSAL.matcher(says);
    while (refusal.find()) {
      refusals.add(refusal.group());
    }
    return refusals;
  }

  private static void constants(String readme) {
    Matcher row = Pattern.compile("\\| `([A-Z]+)` \\| (-\\d+) \\|").matcher(readme);
    List<String> told = new ArrayList<>();
    while (row.find()) {
      check.holds(row.group(1) + " is " + row.group(2), row.group(1).equals(name(Long.parseLong(row.group(2)))));
      told.add(row.group(1));
    }
    check.holds("the constants, told " + told, told.equals(List.of("UNKNOWN", "OUTSIDE", "STATE", "FULL", "NONE")));
  }

  /** A test that is run has its word, and what has its word is run. */
  private static void tests(String readme, Path folder) throws IOException {
    Set<String> there = new LinkedHashSet<>();
    try (Stream<Path> files = Files.list(folder)) {
      files.map(file -> file.getFileName().toString()).filter(name -> name.endsWith("Test.java"))
          .forEach(name -> there.add(name.substring(0, name.length() - 5)));
    }
    Set<String> told = new LinkedHashSet<>();
    Matcher name = Pattern.compile("`(\\w+Test)`").matcher(readme);
    while (name.find()) {
      told.add(name.group(1));
    }
    check.holds("tests " + there + ", told " + told, there.equals(told));
  }
}
