import java.io.IOException;
import java.lang.reflect.InvocationTargetException;
import java.lang.reflect.Method;
import java.lang.reflect.Modifier;
import java.nio.file.DirectoryStream;
import java.nio.file.Files;
import java.nio.file.Path;
import java.util.ArrayList;
import java.util.HashSet;
import java.util.List;
import java.util.Set;
import java.util.regex.Matcher;
import java.util.regex.Pattern;

/** README.md holds: its lines of use are made as they stand, from the checkout's own folder. */
public final class PipersDeskReadme extends DeskChecks {
  private static final String FIRST_LINE = "PipersDesk desk = new PipersDesk();";
  private static final Pattern CALL = Pattern.compile("desk\\.(\\w+)\\(([^()]*)\\); +// (-?[\\w.]+): .+");
  private static final Pattern WORD = Pattern.compile("-?\\d+|true|false");

  private static List<String> linesOfUse(List<String> readme) {
    List<String> lines = new ArrayList<>();
    boolean inside = false;
    for (String line : readme) {
      if (line.startsWith("```")) {
        inside = line.equals("```java");
      } else if (inside && !line.isEmpty() && !line.startsWith("//")) {
        lines.add(line);
      }
    }
    return lines;
  }

  private static Method methodOf(String name) {
    for (Method method : PipersDesk.class.getDeclaredMethods()) {
      if (Modifier.isPublic(method.getModifiers()) && method.getName().equals(name)) return method;
    }
    return null;
  }

  private static Object valueOf(String word) {
    if (!WORD.matcher(word).matches()) return word;
    if (word.equals("true") || word.equals("false")) return Boolean.valueOf(word);
    return Integer.valueOf(word);
  }

  private static Object[] valuesOf(String words) {
    if (words.isEmpty()) return new Object[0];
    String[] parts = words.split(", ");
    Object[] values = new Object[parts.length];
    for (int i = 0; i < parts.length; i++) {
      values[i] = valueOf(parts[i]);
    }
    return values;
  }

  private static String answer(PipersDesk desk, Method method, Object[] values) {
    try {
      return String.valueOf(method.invoke(desk, values));
    } catch (InvocationTargetException e) {
      return e.getCause().getClass().getSimpleName();
    } catch (IllegalAccessException | IllegalArgumentException e) {
      return "no such call";
    }
  }

  private static void use(List<String> lines) {
    Set<String> used = new HashSet<>();
    PipersDesk desk = new PipersDesk();
    edge("the first line");
    same(lines.isEmpty() ? "nothing" : lines.get(0), FIRST_LINE);
    for (int i = 1; i < lines.size(); i++) {
      edge(lines.get(i));
      Matcher call = CALL.matcher(lines.get(i));
      Method method = call.matches() ? methodOf(call.group(1)) : null;
      if (method == null) {
        same("no call that can be tried", "a call with its answer");
      } else {
        same(answer(desk, method, valuesOf(call.group(2))), call.group(3));
        used.add(method.getName());
      }
    }
    for (Method method : PipersDesk.class.getDeclaredMethods()) {
      if (Modifier.isPublic(method.getModifiers())) {
        edge("the call " + method.getName());
        same(used.contains(method.getName()) ? "used" : "not used", "used");
      }
    }
  }

  private static void testsNamed(String readme) throws IOException {
    try (DirectoryStream<Path> tests = Files.newDirectoryStream(Path.of("src/test/java"), "*.java")) {
      for (Path test : tests) {
        String name = test.getFileName().toString().replace(".java", "");
        edge("the test " + name);
        same(readme.contains("`" + name + "`") ? "named" : "not named", "named");
      }
    }
  }

  public static void main(String[] args) throws IOException {
    promise("README.md");
    List<String> readme = Files.readAllLines(Path.of("README.md"));
    use(linesOfUse(readme));
    testsNamed(String.join("\n", readme));
    end();
  }
}
