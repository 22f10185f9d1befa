import java.io.IOException;
import java.lang.reflect.Method;
import java.nio.file.Files;
import java.nio.file.Path;
import java.util.ArrayList;
import java.util.List;
import java.util.TreeMap;

/**
 * NOTES.md says for each sentence of the document which test holds it: the rows there are those that the
 * tests say themselves, no sentence is left out, and each stands in the document. With an argument it prints the rows.
 */
public final class NotesTest {
  private static final Class<?>[] TESTS = {RowsEdgeTest.class, TapeEdgeTest.class, ActsEdgeTest.class, ForetoldEdgeTest.class,
      SeenEdgeTest.class, AskedEdgeTest.class, RefusedEdgeTest.class};
  private static final Check c = new Check();

  private static String row(String words, Method test) {
    return "| " + words + " | `" + test.getDeclaringClass().getName() + "." + test.getName() + "` |";
  }

  /** The lines of the document that promise something: Terms and promises, without their headings. */
  private static List<String> promising(List<String> document) {
    List<String> lines = new ArrayList<>();
    boolean within = false;
    for (String line : document) {
      if (line.startsWith("## ")) within = !line.startsWith("## Not promised") && (within || line.equals("## Terms"));
      if (within && !line.startsWith("## ") && !line.startsWith("```") && !line.startsWith("Ahead of the calls") && !line.isBlank()) lines.add(line);
    }
    return lines;
  }

  private static void mark(String line, String words, boolean[] held) {
    for (int at = line.indexOf(words); at >= 0; at = line.indexOf(words, at + 1))
      for (int i = 0; i < words.length(); i++) held[at + i] = true;
  }

  /** The words of a line that no test says to hold. */
  private static String left(String line, List<String> quotes) {
    boolean[] held = new boolean[line.length()];
    for (String words : quotes) mark(line, words, held);
    StringBuilder left = new StringBuilder();
    for (int i = 0; i < held.length; i++) left.append(held[i] ? ' ' : line.charAt(i));
    return left.toString().replaceAll("^======== \\d", "").replaceAll("[\\s.,;:()`]+", " ").trim();
  }

  private static void print(List<String> document) {
    String text = String.join("\n", document);
    TreeMap<String, String> rows = new TreeMap<>();
    for (Class<?> tests : TESTS)
      for (Method test : Check.testsOf(tests))
        for (String words : test.getAnnotation(Holds.class).value())
          rows.put(String.format("%06d %s %s", text.indexOf(words), tests.getName(), test.getName()), row(words, test));
    for (String line : rows.values()) System.out.println(line);
  }

  public static void main(String[] args) throws IOException {
    Path path = Path.of("../shared/DOC.md");
    List<String> document = Files.exists(path) ? Files.readAllLines(path) : List.of();
    if (args.length > 0) {
      print(document);
      return;
    }
    List<String> notes = Files.readAllLines(Path.of("NOTES.md"));
    List<String> quotes = new ArrayList<>();
    int rows = 0;
    for (Class<?> tests : TESTS)
      for (Method test : Check.testsOf(tests))
        for (String words : test.getAnnotation(Holds.class).value()) {
          quotes.add(words);
          rows++;
          c.so("in NOTES.md: " + row(words, test), notes.contains(row(words, test)));
          c.so("in the document: " + words, document.isEmpty() || String.join("\n", document).contains(words));
        }
    c.due("rows in NOTES.md", notes.stream().filter(line -> line.matches("\\| .* \\| `\\w+EdgeTest\\.\\w+` \\|")).count(), rows);
    for (String line : promising(document)) c.same("no test holds", left(line, quotes), "");
    c.end("NotesTest");
  }
}
