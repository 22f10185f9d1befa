import java.io.File;
import java.io.IOException;
import java.lang.reflect.Method;
import java.lang.reflect.Modifier;
import java.nio.file.Files;
import java.nio.file.Path;
import java.util.ArrayList;
import java.util.Arrays;
import java.util.Comparator;
import java.util.HashSet;
import java.util.List;
import java.util.Set;
import java.util.regex.Matcher;
import java.util.regex.Pattern;
import java.util.stream.Stream;

/**
 * README.md: its program is compiled and run by its own commands and prints what is shown there; each call shown
 * answers what is shown; every call and constant of the class is told.
 */
public final class ReadmeTest {
  private static final String NEW = "StepRiders x = new StepRiders();";
  private static final Pattern CALL = Pattern.compile("(x\\.(\\w+)\\(([^)]*)\\)|read\\(x, \"([^\"]*)\"\\));\\s+// (-?\\d+)(:.*)?");
  private static final Pattern ROW = Pattern.compile("\\| `(\\w+)\\(([^)]*)\\)`( \\*)? \\| .* \\|");
  private static final Check c = new Check();

  /** The blocks of a language, each without its fences. */
  private static List<String> blocks(String readme, String language) {
    List<String> all = new ArrayList<>();
    Matcher m = Pattern.compile("(?ms)^```" + language + "\n(.*?)^```$").matcher(readme);
    while (m.find()) all.add(m.group(1));
    return all;
  }

  private static int[] numbers(String args) {
    if (args.isEmpty()) return new int[0];
    return Arrays.stream(args.split(", ")).mapToInt(a -> a.startsWith("'") ? a.charAt(1) : Integer.parseInt(a)).toArray();
  }

  private static void calls(String block, Set<String> shown) {
    StepRiders x = null;
    for (String line : block.split("\n")) {
      if (line.equals(NEW)) {
        x = new StepRiders();
        continue;
      }
      Matcher m = CALL.matcher(line);
      boolean told = m.matches() && x != null;
      c.so("a call with its answer: " + line, told);
      if (!told) return;
      boolean reads = m.group(2) == null;
      c.due("README: " + m.group(1), reads ? Check.read(x, m.group(4)) : Check.call(x, m.group(2), numbers(m.group(3))),
          Integer.parseInt(m.group(5)));
      shown.addAll(reads ? List.of("feed", "stair") : List.of(m.group(2)));
    }
  }

  private static String run(Path folder, String command) throws IOException, InterruptedException {
    Process p = new ProcessBuilder(command.split(" ")).directory(folder.toFile()).redirectError(ProcessBuilder.Redirect.INHERIT).start();
    String said = new String(p.getInputStream().readAllBytes()).replace("\r\n", "\n");
    c.due(command + " ended with", p.waitFor(), 0);
    return said;
  }

  /** In a folder that has the class where README.md says, and the program beside it. */
  private static void program(String program, String commands, String prints) throws IOException, InterruptedException {
    Path folder = Files.createTempDirectory("readme");
    Path main = Path.of("src", "main", "java", "StepRiders.java");
    Files.createDirectories(folder.resolve(main).getParent());
    Files.copy(main, folder.resolve(main));
    Files.writeString(folder.resolve("Ride.java"), program);
    String said = "";
    for (String command : commands.split("\n")) said += run(folder, command);
    c.same("README: the program prints", said, prints);
    try (Stream<Path> made = Files.walk(folder)) {
      made.sorted(Comparator.reverseOrder()).map(Path::toFile).forEach(File::delete);
    }
  }

  /** Each call has one row; with a star, if a missing stair is told ahead of arguments that are BAD. */
  private static void rows(String readme, Set<String> shown) {
    List<String> told = new ArrayList<>();
    for (String line : readme.split("\n")) {
      Matcher m = ROW.matcher(line);
      if (!m.matches()) continue;
      int[] args = new int[m.group(2).isEmpty() ? 0 : m.group(2).split(", ").length];
      told.add(m.group(1) + " " + args.length);
      Arrays.fill(args, Check.MIN);
      boolean state = Check.call(new StepRiders(), m.group(1), args) == Check.STATE;
      if (!m.group(1).equals("undo")) c.so("README: the star of " + m.group(1), state == (m.group(3) != null));
    }
    int calls = 0;
    for (Method m : StepRiders.class.getDeclaredMethods()) {
      if (!Modifier.isPublic(m.getModifiers())) continue;
      calls++;
      c.so("README has a row for " + m, told.contains(m.getName() + " " + m.getParameterCount()));
      c.so("README shows an answer of " + m, shown.contains(m.getName()));
    }
    c.due("rows of calls in README", told.size(), calls);
  }

  private static void constants(String readme) throws ReflectiveOperationException {
    Matcher m = Pattern.compile("\\| (-\\d+) \\| `StepRiders\\.(\\w+)` \\|").matcher(readme);
    Set<String> names = new HashSet<>();
    while (m.find()) {
      names.add(m.group(2));
      c.due("README: " + m.group(2), Integer.parseInt(m.group(1)), StepRiders.class.getField(m.group(2)).getInt(null));
    }
    c.due("constants in README", names.size(), 4);
  }

  /** What the page names of this folder is there. */
  private static void files(String readme) {
    Matcher m = Pattern.compile("\\b(?:src/(?:main|test)/java/\\w+\\.java|NOTES\\.md|\\w+Test\\b)|\\.ci/run").matcher(readme);
    while (m.find()) {
      String name = m.group().endsWith("Test") ? "src/test/java/" + m.group() + ".java" : m.group();
      c.so("README names " + name, Files.exists(Path.of(name)));
    }
  }

  public static void main(String[] args) throws IOException, InterruptedException, ReflectiveOperationException {
    String readme = Files.readString(Path.of("README.md"));
    List<String> java = blocks(readme, "java");
    program(java.get(0), blocks(readme, "sh").get(0), blocks(readme, "text").get(0));
    Set<String> shown = new HashSet<>();
    for (String block : java.subList(1, java.size())) calls(block, shown);
    rows(readme, shown);
    constants(readme);
    files(readme);
    c.end("ReadmeTest");
  }
}
