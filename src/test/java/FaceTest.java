import java.io.IOException;
import java.lang.reflect.Constructor;
import java.lang.reflect.Field;
import java.lang.reflect.Method;
import java.lang.reflect.Modifier;
import java.nio.file.Files;
import java.nio.file.Path;
import java.util.Arrays;
import java.util.Set;
import java.util.TreeSet;
import java.util.regex.Matcher;
import java.util.regex.Pattern;

/** The document's public face, and those rules of LANGUAGE.md that can be seen from the class and its text. */
public final class FaceTest {
  private static final Check c = new Check();
  private static final String[] FACE = {"row 3", "set 3", "copy 5", "drop 1", "feed 1", "stair 0", "fault 0", "ticks 1",
      "speed 1", "cross 1", "take 1", "again 2", "undo 0", "rider 2", "step 2", "ahead 2", "later 2", "off 1", "clear 0",
      "sorting 1", "taken 1", "pace 3", "fits 5", "absent 4", "drawn 3", "image 1", "restore 1", "kind 1", "as 2", "ask 2",
      "trace 1", "count 1", "status 0"};

  private static void face() {
    Class<?> k = StepRiders.class;
    c.so("the class is public and final", Modifier.isPublic(k.getModifiers()) && Modifier.isFinal(k.getModifiers()));
    Set<String> names = new TreeSet<>();
    Set<String> open = new TreeSet<>();
    for (Method m : k.getDeclaredMethods()) {
      if (Modifier.isPrivate(m.getModifiers())) continue;
      c.so(m + " is public, of the object, of ints", Modifier.isPublic(m.getModifiers()) && !Modifier.isStatic(m.getModifiers())
          && m.getReturnType() == int.class && Arrays.stream(m.getParameterTypes()).allMatch(t -> t == int.class));
      open.add(m.getName() + " " + m.getParameterCount());
      names.add(m.getName());
    }
    c.so("the face is " + open, open.equals(new TreeSet<>(Arrays.asList(FACE))));
    for (Class<?> inside : k.getDeclaredClasses())
      c.so(inside + " is static", Modifier.isStatic(inside.getModifiers()) && !Modifier.isPublic(inside.getModifiers())
          && !Modifier.isProtected(inside.getModifiers()));
    c.so("some twelve classes", k.getDeclaredClasses().length <= 12);
    privateNames(k, names);
    for (Class<?> inside : k.getDeclaredClasses()) privateNames(inside, names);
    Constructor<?>[] made = k.getDeclaredConstructors();
    c.so("one constructor", made.length == 1 && Modifier.isPublic(made[0].getModifiers()) && made[0].getParameterCount() == 0);
    Set<String> constants = new TreeSet<>();
    for (Field f : k.getDeclaredFields()) if (!Modifier.isPrivate(f.getModifiers())) constants.add(f.getName());
    c.so("the constants are " + constants, constants.equals(Set.of("NONE", "BAD", "STATE", "FULL")));
    c.due("NONE", StepRiders.NONE, -1000000);
    c.due("BAD", StepRiders.BAD, -1000001);
    c.due("STATE", StepRiders.STATE, -1000002);
    c.due("FULL", StepRiders.FULL, -1000003);
  }

  private static void privateNames(Class<?> k, Set<String> face) {
    int fields = 0;
    for (Field f : k.getDeclaredFields()) {
      if (Modifier.isStatic(f.getModifiers())) c.so(f + " is final", Modifier.isFinal(f.getModifiers()));
      else fields++;
    }
    c.so(k + " has some twenty fields", fields <= 20);
    for (Method m : k.getDeclaredMethods()) {
      c.so(m + " takes seven at most", m.getParameterCount() <= 7);
      if (k == StepRiders.class && Modifier.isPrivate(m.getModifiers()) || k != StepRiders.class)
        c.so(m + " bears no name of the face", !face.contains(m.getName()));
    }
  }

  private static void text() throws IOException {
    String source = Files.readString(Path.of("src/main/java/StepRiders.java"));
    c.so("signs 1 to 127 alone", source.chars().allMatch(ch -> ch > 0 && ch < 128));
    String code = source.replaceAll("(?s)/\\*.*?\\*/", " ").replaceAll("//[^\n]*", " ").replaceAll("'(\\\\.|[^'])'", "0");
    String[] never = {"\\bthrow\\b", "\\bthrows\\b", "\\btry\\b", "\\bcatch\\b", "\\bsynchronized\\b", "\\bassert\\b", "->", "::",
        "\\bpackage\\b", "\\bimport\\b", "Exact\\(", "\\bstatic\\s*\\{", "\\bdouble\\b", "\\bfloat\\b", "\"", "\\bprotected\\b",
        "\\bthis\\b", "\\bsuper\\b", "\\bequals\\b", "\\bhashCode\\b", "\\btoString\\b", "\\bvolatile\\b"};
    for (String word : never) c.so("nowhere " + word, !Pattern.compile(word).matcher(code).find());
    Matcher library = Pattern.compile("\\b(System|Integer|Math|Long|Arrays)\\.(\\w+)").matcher(code);
    Set<String> allowed = Set.of("System.arraycopy", "Integer.bitCount", "Math.max", "Math.min");
    while (library.find()) c.so("of the library: " + library.group(), allowed.contains(library.group()));
    methodLengths(source);
  }

  private static void methodLengths(String source) {
    String[] lines = source.split("\n");
    Pattern head = Pattern.compile("^( {4}| {8})(?! )[\\w\\[\\] ]+\\([\\w\\[\\], ]*\\) \\{$");
    int methods = 0;
    for (int i = 0; i < lines.length; i++) {
      Matcher m = head.matcher(lines[i]);
      if (!m.matches()) continue;
      int end = i;
      while (end < lines.length && !lines[end].equals(m.group(1) + "}")) end++;
      c.so("line " + (i + 1) + ": a method of " + (end - i + 1) + " lines", end - i + 1 <= 60);
      methods++;
    }
    c.so("methods were found", methods > 80);
  }

  public static void main(String[] args) throws IOException {
    face();
    text();
    c.end("FaceTest");
  }
}
