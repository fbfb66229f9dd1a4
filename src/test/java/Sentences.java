import java.util.ArrayList;
import java.util.LinkedHashMap;
import java.util.List;
import java.util.Map;

/** The document's sentences by their places, and which of them were quoted. */
final class Sentences {
  private final Check check;
  private final Map<String, StringBuilder> places = new LinkedHashMap<>();
  private final Map<String, List<int[]>> quoted = new LinkedHashMap<>();

  /** Of no document: then quotes are taken as they are. */
  Sentences(Check check, String document) {
    this.check = check;
    String place = "";
    for (String line : document.split("\n")) {
      if (line.startsWith("## ")) {
        int colon = line.indexOf(':');
        place = line.substring(3, colon < 0 ? line.length() : colon);
        places.put(place, new StringBuilder());
      } else if (places.containsKey(place) && !line.startsWith("```")) {
        places.get(place).append(' ').append(line.trim());
      }
    }
    places.replaceAll((name, text) -> new StringBuilder(bare(name, text.toString())));
  }

  /** A promise's text stands behind its method. */
  private static String bare(String place, String text) {
    int behind = place.startsWith("Promise ") ? text.indexOf("`: ") + 2 : 0;
    return text.substring(behind).replaceAll("\\s+", " ");
  }

  void quote(String place, String sentence) {
    if (places.isEmpty()) {
      return;
    }
    int start = places.containsKey(place) ? places.get(place).indexOf(sentence) : -1;
    check.holds(place + " says: " + sentence, start >= 0);
    if (start >= 0) {
      quoted.computeIfAbsent(place, name -> new ArrayList<>()).add(new int[] {start, start + sentence.length()});
    }
  }

  /** Nothing that the terms and the promises say is left without a run. */
  void allQuoted() {
    places.forEach((place, text) -> {
      if (place.equals("Terms") || place.startsWith("Promise ")) {
        String left = left(place, text.toString());
        check.holds(place + ", without a run: " + left, left.chars().noneMatch(Character::isLetter));
      }
    });
  }

  private String left(String place, String text) {
    StringBuilder left = new StringBuilder(text);
    for (int[] part : quoted.getOrDefault(place, List.of())) {
      for (int i = part[0]; i < part[1]; i++) {
        left.setCharAt(i, ' ');
      }
    }
    // The order of the face is no sentence about an answer.
    return left.toString().replaceAll("Ahead of the calls [^.]*\\.", " ").replaceAll("\\s+", " ");
  }
}
