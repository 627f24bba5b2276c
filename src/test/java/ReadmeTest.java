import java.lang.reflect.Method;
import java.lang.reflect.Modifier;
import java.nio.file.Files;
import java.nio.file.Path;
import java.util.HashMap;
import java.util.List;
import java.util.Map;
import java.util.regex.Matcher;
import java.util.regex.Pattern;
import java.util.stream.Stream;

/** README.md: the lines on how to use the class hold, and every call and every test is named. */
public final class ReadmeTest extends Checks {
  private static final Pattern CALLED =
      Pattern.compile("(?:(?:int|long) (\\w+) = )?x\\.(\\w+)\\(([^)]*)\\);(?: +// (-?\\d+)?([^\"]*)(?:\"([^\"]*)\")?.*)?");
  private static final int LEAST_CALLS = 30;

  public static void main(String[] args) throws Exception {
    String readme = Files.readString(Path.of("README.md"));
    lines(readme);
    names(readme);
    end();
  }

  private static void lines(String readme) throws Exception {
    int from = readme.indexOf("```java\n");
    int to = readme.indexOf("```\n", from + 1);
    due("a block of Java", from >= 0 && to > from ? 1 : 0, 1);
    CallTraces x = new CallTraces();
    Map<String, Long> known = new HashMap<>();
    int calls = 0;
    for (String line : readme.substring(from, to).lines().skip(1).toList()) {
      if (!line.isEmpty() && !line.equals("CallTraces x = new CallTraces();")) {
        line(x, known, line);
        calls++;
      }
    }
    due("calls enough", calls >= LEAST_CALLS ? 1 : 0, 1);
  }

  private static void line(CallTraces x, Map<String, Long> known, String line) throws Exception {
    Matcher called = CALLED.matcher(line);
    if (!called.matches()) {
      dueText("a line that can be held", line, "");
      return;
    }
    long answer = answer(x, called.group(2), called.group(3), known);
    if (called.group(1) != null) {
      known.put(called.group(1), answer);
    }
    if (called.group(4) != null) {
      due(line, answer, Long.parseLong(called.group(4)));
    }
    if (called.group(6) != null) {
      dueText(line, outOf(x, (int) answer), called.group(6));
    }
  }

  private static long answer(CallTraces x, String name, String row, Map<String, Long> known) throws Exception {
    Method method = Stream.of(CallTraces.class.getMethods()).filter(it -> it.getName().equals(name)).findFirst().orElseThrow();
    List<String> words = row.isEmpty() ? List.of() : List.of(row.split(", "));
    Class<?>[] types = method.getParameterTypes();
    Object[] given = new Object[words.size()];
    for (int i = 0; i < given.length; i++) {
      given[i] = given(types[i], words.get(i), known);
    }
    return ((Number) method.invoke(x, given)).longValue();
  }

  private static Object given(Class<?> type, String word, Map<String, Long> known) {
    if (type == boolean.class) {
      return word.equals("true");
    }
    long number = known.containsKey(word) ? known.get(word) : Long.parseLong(word);
    if (type == int.class) {
      return (int) number;
    }
    return number;
  }

  private static void names(String readme) throws Exception {
    for (Method method : CallTraces.class.getDeclaredMethods()) {
      if (Modifier.isPublic(method.getModifiers())) {
        String call = "`" + method.getName() + (method.getParameterCount() == 0 ? "()`" : "(..)`");
        due(call + " is named", readme.contains(call) ? 1 : 0, 1);
      }
    }
    try (Stream<Path> files = Files.list(Path.of("src/test/java"))) {
      for (Path file : files.toList()) {
        String name = "`" + file.getFileName().toString().replace(".java", "") + "`";
        due(name + " is named", readme.contains(name) ? 1 : 0, 1);
      }
    }
  }
}
