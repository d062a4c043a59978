import java.io.IOException;
import java.lang.reflect.Method;
import java.nio.charset.StandardCharsets;
import java.nio.file.Files;
import java.nio.file.Path;
import java.util.Arrays;
import java.util.Set;
import java.util.TreeSet;
import java.util.regex.Matcher;
import java.util.regex.Pattern;
import java.util.stream.Collectors;
import java.util.stream.Stream;

/** What README.md shows is so: each call of its examples answers as is said there, and it names all calls and tests. */
public final class ReadmeTest {
  private static final Check CHECK = new Check();
  private static final Path README = Path.of("README.md");
  private static final Path TESTS = Path.of("src/test/java");
  private static final Pattern BLOCK = Pattern.compile("```java\n(.*?)```", Pattern.DOTALL);
  private static final Pattern CALL = Pattern.compile("x\\.(\\w+)\\(([-\\w, ]*)\\);\\s*// (-?\\d+|true|false)(: .*)?");
  private static final Pattern PUT = Pattern.compile("put\\(x, \"(.*)\"\\);");
  private static final String MADE = "OtherHands x = new OtherHands();";

  private static OtherHands x;

  /** README.md shows this method as it stands here. */
  private static void put(OtherHands x, String text) {
    x.end(0);
    for (int at = 0; at < text.length(); at += 20) {
      int[] five = new int[5];
      for (int i = 0; i < 20 && at + i < text.length(); i++) {
        five[i / 4] |= text.charAt(at + i) << (24 - 8 * (i % 4));
      }
      x.feed(five[0], five[1], five[2], five[3], five[4]);
    }
    x.end(text.length());
  }

  private static String inOneLine(String code) {
    return code.replaceAll("\\s+", " ").trim();
  }

  private static void answer(String line, Matcher call) throws ReflectiveOperationException {
    String[] told = call.group(2).isBlank() ? new String[0] : call.group(2).split(", *");
    Object[] numbers = new Object[told.length];
    for (int i = 0; i < told.length; i++) {
      numbers[i] = told[i].equals("NONE") ? Integer.valueOf(OtherHands.NONE) : Integer.decode(told[i]);
    }
    Class<?>[] kinds = new Class<?>[told.length];
    Arrays.fill(kinds, int.class);
    Method method = OtherHands.class.getMethod(call.group(1), kinds);
    CHECK.same(line, String.valueOf(method.invoke(x, numbers)), call.group(3));
  }

  private static void example(String block) throws ReflectiveOperationException {
    for (String line : block.split("\n")) {
      Matcher call = CALL.matcher(line);
      Matcher put = PUT.matcher(line);
      if (line.equals(MADE)) {
        x = new OtherHands();
      } else if (put.matches()) {
        put(x, put.group(1));
      } else {
        boolean known = call.matches();
        CHECK.due("an example's line that can be asked: " + line, known || line.isBlank(), true);
        if (known) {
          answer(line, call);
        }
      }
    }
  }

  private static void examples(String readme) throws IOException, ReflectiveOperationException {
    String own = inOneLine(Files.readString(TESTS.resolve("ReadmeTest.java"), StandardCharsets.UTF_8));
    Matcher blocks = BLOCK.matcher(readme);
    int shown = 0;
    int asked = 0;
    while (blocks.find()) {
      String block = blocks.group(1);
      if (block.startsWith("static ")) {
        CHECK.due("the method shown is the one of this test", own.contains("private " + inOneLine(block)), true);
        shown++;
      } else {
        example(block);
        asked++;
      }
    }
    CHECK.due("methods shown", shown, 1);
    CHECK.due("there are examples", asked > 0, true);
  }

  private static Set<String> named(String readme, String pattern) {
    Set<String> set = new TreeSet<>();
    Matcher m = Pattern.compile(pattern).matcher(readme);
    while (m.find()) {
      set.add(m.group(1));
    }
    return set;
  }

  private static void names(String readme) throws IOException {
    Set<String> face = new TreeSet<>();
    for (Method m : OtherHands.class.getDeclaredMethods()) {
      if (java.lang.reflect.Modifier.isPublic(m.getModifiers())) {
        face.add(m.getName());
      }
    }
    CHECK.same("the calls told", named(readme, "\\| `(\\w+)\\([a-z, ]*\\)` \\|").toString(), face.toString());
    try (Stream<Path> files = Files.list(TESTS)) {
      Set<String> there = files.map(f -> f.getFileName().toString()).filter(f -> f.endsWith(".java"))
          .map(f -> f.substring(0, f.length() - 5)).collect(Collectors.toCollection(TreeSet::new));
      CHECK.same("the files of the tests", named(readme, "`(\\w+Test|Check|Model)`").toString(), there.toString());
    }
  }

  public static void main(String[] args) throws IOException, ReflectiveOperationException {
    String readme = Files.readString(README, StandardCharsets.UTF_8);
    examples(readme);
    names(readme);
    CHECK.close();
  }
}
