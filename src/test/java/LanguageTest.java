import java.io.IOException;
import java.lang.reflect.Constructor;
import java.lang.reflect.Field;
import java.lang.reflect.Method;
import java.lang.reflect.Modifier;
import java.nio.charset.StandardCharsets;
import java.nio.file.Files;
import java.nio.file.Path;
import java.util.Arrays;
import java.util.Set;
import java.util.TreeSet;
import java.util.regex.Matcher;
import java.util.regex.Pattern;

/** Those rules of LANGUAGE.md that can be seen in the source and in the class itself. */
public final class LanguageTest {
  private static final Check CHECK = new Check();
  private static final Path SOURCE = Path.of("src/main/java/OtherHands.java");

  private static final Set<String> FACE = new TreeSet<>(Arrays.asList(
      "int feed(int,int,int,int,int)", "int end(int)", "int town()", "int rule()", "int force(int)",
      "int coin(int,int)", "int meeting(int,int)", "int person(int,int)", "int pay(int,int)", "int home(int)",
      "int rest(int)", "int run(int,int)", "int ahead(int,int,int)", "int soonest(int)", "int fewest(int)",
      "int lost()", "int strangers()", "int dear(int)", "int rings(int,int)", "int never(int,int)",
      "boolean came(int,int)", "int met(int)", "int seed(int)", "int years(int,int,int,int)", "int count(int)",
      "int image(int)", "int back(int)"));

  private static void none(String what, boolean found) {
    CHECK.due(what, found, false);
  }

  private static void face() {
    Set<String> found = new TreeSet<>();
    for (Method m : OtherHands.class.getDeclaredMethods()) {
      if (Modifier.isPublic(m.getModifiers())) {
        String types = String.join(",", Arrays.stream(m.getParameterTypes()).map(Class::getSimpleName).toList());
        found.add(m.getReturnType().getSimpleName() + " " + m.getName() + "(" + types + ")");
      } else {
        CHECK.due("private: " + m, Modifier.isPrivate(m.getModifiers()), true);
      }
    }
    CHECK.due("rule 1: the face is " + found, found.equals(FACE), true);
    CHECK.due("rule 1: final", Modifier.isFinal(OtherHands.class.getModifiers()), true);
    for (Constructor<?> c : OtherHands.class.getDeclaredConstructors()) {
      CHECK.due("rule 1: " + c, Modifier.isPublic(c.getModifiers()) && c.getParameterCount() == 0, true);
    }
    for (Field f : OtherHands.class.getDeclaredFields()) {
      CHECK.due("rule 1: " + f, Modifier.isPrivate(f.getModifiers()) || f.getName().equals("NONE"), true);
    }
  }

  private static void classes() {
    Class<?>[] inside = OtherHands.class.getDeclaredClasses();
    CHECK.due("rule 11: classes", inside.length <= 11, true);
    shape(OtherHands.class);
    for (Class<?> c : inside) {
      CHECK.due("rule 2: static " + c, Modifier.isStatic(c.getModifiers()), true);
      shape(c);
      for (Method m : c.getDeclaredMethods()) {
        boolean named = FACE.stream().anyMatch(f -> f.contains(" " + m.getName() + "("));
        none("rule 1: a method within bears the name of a public one: " + m, named);
      }
    }
  }

  private static void shape(Class<?> c) {
    int fields = 0;
    for (Field f : c.getDeclaredFields()) {
      if (Modifier.isStatic(f.getModifiers())) {
        CHECK.due("rule 5: final " + f, Modifier.isFinal(f.getModifiers()), true);
      } else {
        fields++;
      }
    }
    CHECK.due("rule 11: fields of " + c, fields <= 20, true);
    for (Method m : c.getDeclaredMethods()) {
      CHECK.due("rule 11: parameters of " + m, m.getParameterCount() <= 7, true);
    }
  }

  private static void words(String code) {
    String[] words = {"throw", "throws", "try", "catch", "synchronized", "assert", "static\\s*\\{", "->", "::",
        "protected", "System\\.(?!arraycopy)", "Thread", "Random", "Object\\b", "\\w+Exact\\b", "hashCode", "toString",
        "\\bRuntimeException", "String\\[\\]", "\\bfor \\(;;\\)", "while \\(true\\)"};
    for (String w : words) {
      String asWord = Character.isLetter(w.charAt(0)) ? "\\b" + w : w;
      boolean ends = w.matches("[a-z]+");
      none("the source has " + w, Pattern.compile(ends ? asWord + "\\b" : asWord).matcher(code).find());
    }
    Matcher imports = Pattern.compile("import ([\\w.]+);").matcher(code);
    while (imports.find()) {
      CHECK.due("rule 4: " + imports.group(), imports.group(1).matches("java\\.util\\.(Arrays|ArrayList|List)"), true);
    }
    none("rule 10: a text joined by +", Pattern.compile("\"\\s*\\+|\\+\\s*\"").matcher(code).find());
    CHECK.due("rule 4: signs 1 to 127", code.chars().allMatch(c -> c >= 1 && c <= 127), true);
  }

  /** Methods begin with an indent of two or four and end with the same. */
  private static void lengths(String code) {
    String[] lines = code.split("\n");
    for (int i = 0; i < lines.length; i++) {
      Matcher head = Pattern.compile("^( {2}| {4})(?=\\S)(?!if|for|while|switch)[\\w\\[\\]<> ]+\\([^;]*\\) \\{$").matcher(lines[i]);
      if (head.find()) {
        int end = i;
        while (!lines[end].equals(head.group(1) + "}")) {
          end++;
        }
        CHECK.due("rule 11: length of " + lines[i].trim(), end - i < 60, true);
      }
    }
  }

  public static void main(String[] args) throws IOException {
    String source = Files.readString(SOURCE, StandardCharsets.UTF_8);
    String code = source.replaceAll("(?s)/\\*.*?\\*/", "").replaceAll("//[^\n]*", "");
    face();
    classes();
    words(code);
    lengths(code);
    CHECK.close();
  }
}
