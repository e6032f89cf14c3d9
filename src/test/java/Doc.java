import java.io.IOException;
import java.nio.file.Files;
import java.nio.file.Path;
import java.util.ArrayList;
import java.util.BitSet;
import java.util.List;
import java.util.regex.Matcher;
import java.util.regex.Pattern;

/**
 * The words of ../shared/DOC.md that bind, its Terms with how long an object is used (0) and promises 1 to 47: which of
 * them tests have quoted, and which not yet.
 */
final class Doc {
  static final int PROMISES = 47;
  private static final String[] PARTS = new String[PROMISES + 1];
  private static final BitSet[] QUOTED = new BitSet[PROMISES + 1];

  static {
    String all;
    try {
      all = Files.readString(Path.of("../shared/DOC.md"));
    } catch (IOException e) {
      throw new IllegalStateException("../shared/DOC.md can't be read", e);
    }
    String use = "An object is used" + part(all, "An object is used", "\n");
    PARTS[0] = use + " " + terms(part(all, "## Terms\n", "## Promise 1:"));
    for (int i = 1; i <= PROMISES; i++) PARTS[i] = plain(part(all, "## Promise " + i + ":", "\n## ").replaceFirst("(?s)^.*?`[^`]*`:", ""));
    for (int i = 0; i <= PROMISES; i++) QUOTED[i] = new BitSet();
  }

  private static String part(String all, String from, String to) {
    int start = all.indexOf(from) + from.length();
    int end = all.indexOf(to, start);
    if (all.indexOf(from) < 0 || end < 0) throw new IllegalStateException("the document has no part " + from);
    return all.substring(start, end);
  }

  /** Without the headings of the interface that only name what comes, and without the numbers of paragraphs. */
  private static String terms(String text) {
    return plain(text.replaceAll("(?m)^Ahead of the calls .* says: ---- [^(]*$", "")
        .replaceAll("(?m)^Ahead of the calls .* says: ---- ", "").replaceAll("(?m)^\\d\\. ", ""));
  }

  private static String plain(String text) {
    return text.replaceAll("```(text)?", " ").replaceAll("\\s+", " ").trim();
  }

  /** Whether the document says so there; the words count as quoted then. */
  static boolean says(int promise, String quote) {
    String part = PARTS[promise];
    int at = part.indexOf(quote);
    for (int next = at; next >= 0; next = part.indexOf(quote, next + 1)) {
      at = next;
      if (QUOTED[promise].nextClearBit(next) < next + quote.length()) break;
    }
    if (at < 0) return false;
    QUOTED[promise].set(at, at + quote.length());
    return true;
  }

  static List<String> unquoted() {
    List<String> left = new ArrayList<>();
    for (int i = 0; i <= PROMISES; i++) {
      StringBuilder b = new StringBuilder(PARTS[i]);
      for (int at = 0; at < b.length(); at++) if (QUOTED[i].get(at)) b.setCharAt(at, '\n');
      Matcher m = Pattern.compile("[^\n]*[A-Za-z0-9][^\n]*").matcher(b);
      while (m.find()) left.add((i == 0 ? "Terms" : "promise " + i) + ": " + m.group().trim());
    }
    return left;
  }
}
