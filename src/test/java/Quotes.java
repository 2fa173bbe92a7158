import java.io.IOException;
import java.nio.file.Files;
import java.nio.file.Path;
import java.util.Map;
import java.util.TreeMap;

/** The document's sections, and which of their words are quoted: a word that no test quotes may be untested. */
final class Quotes {
  private final Map<Integer, String> sections = new TreeMap<>();
  private final Map<Integer, boolean[]> quoted = new TreeMap<>();

  Quotes(Path document) throws IOException {
    for (String section : Files.readString(document).split("\n## ")) {
      int behindTitle = section.indexOf('\n');
      if (behindTitle < 0) {
        continue;
      }
      String title = section.substring(0, behindTitle);
      String body = section.substring(behindTitle);
      if (title.startsWith("Promise ")) {
        // A promise begins with the method's signature, which FaceTest looks at.
        int number = Integer.parseInt(title.substring(8, title.indexOf(':')));
        keep(number, body.substring(body.indexOf("`: ") + 3));
      } else if (title.equals("What it is")) {
        keep(Edge.ABOUT, body.replace("==== 1.", " "));
      } else if (title.equals("Terms")) {
        keep(Edge.TERMS, body.replace("```text", " ").replace("```", " ").replace("==== 2.", " "));
      }
    }
  }

  private void keep(int number, String text) {
    String plain = plain(text);
    sections.put(number, plain);
    quoted.put(number, new boolean[plain.length()]);
  }

  private static String plain(String text) {
    return text.replaceAll("\\s+", " ").trim();
  }

  Iterable<Integer> numbers() {
    return sections.keySet();
  }

  /** Marks the words of a quote: false if the section has no such ones. */
  boolean mark(int number, String says) {
    String section = sections.getOrDefault(number, "");
    String quote = plain(says);
    int at = section.indexOf(quote);
    boolean found = at >= 0 && !quote.isEmpty();
    for (; found && at >= 0; at = section.indexOf(quote, at + 1)) {
      for (int i = at; i < at + quote.length(); i++) {
        quoted.get(number)[i] = true;
      }
    }
    return found;
  }

  /** The words of a section that no test quotes, empty if all are. */
  String unquoted(int number) {
    String section = sections.get(number);
    StringBuilder left = new StringBuilder();
    for (int i = 0; i < section.length(); i++) {
      boolean counts = Character.isLetterOrDigit(section.charAt(i)) && !quoted.get(number)[i];
      left.append(counts ? section.charAt(i) : ' ');
    }
    return plain(left.toString());
  }
}
