import java.lang.reflect.Constructor;
import java.lang.reflect.Field;
import java.lang.reflect.Method;
import java.lang.reflect.Modifier;
import java.nio.charset.StandardCharsets;
import java.nio.file.Files;
import java.nio.file.Path;
import java.util.Set;
import java.util.TreeSet;
import java.util.regex.Matcher;
import java.util.regex.Pattern;

/** The public face, and those rules of the language that a look at the class and its source can tell. */
public final class FaceTest {
  private static final String FACE = """
      int account()
      long back(int, int)
      long balance(int)
      int call(int, int, long, int)
      long cell(int, int)
      int compare(int, int)
      int count(int)
      int drop()
      int flame(int, int, int, boolean)
      long flow(int, int, boolean)
      long fund(int, long)
      int halves(int, int)
      int member(int, int, int)
      int op(int, int, long, int)
      int out(int)
      int price(int, int)
      int program()
      long result(int)
      int search(int, int, int)
      long state()
      int step(int, int, int)
      long tell(int, int, int, int)
      long told(int, int)
      int touch(int, int, int)
      int trace(int, int)
      long value(int, int)
      int write(int, int)
      """;

  public static void main(String[] args) throws Exception {
    Class<?> face = CallTraces.class;
    Checks.due("public and final", face.getModifiers(), Modifier.PUBLIC | Modifier.FINAL);
    methods(face);
    constants(face);
    Constructor<?>[] constructors = face.getDeclaredConstructors();
    Checks.due("constructors", constructors.length, 1);
    Checks.due("its parameters", constructors[0].getParameterCount(), 0);
    Checks.due("it is public", constructors[0].getModifiers(), Modifier.PUBLIC);
    nested(face);
    source(Files.readString(Path.of("src/main/java/CallTraces.java"), StandardCharsets.ISO_8859_1));
    Checks.end();
  }

  private static String nameOf(Method method) {
    StringBuilder text = new StringBuilder(method.getReturnType() + " " + method.getName() + "(");
    for (Class<?> type : method.getParameterTypes()) {
      text.append(text.charAt(text.length() - 1) == '(' ? "" : ", ").append(type);
    }
    return text.append(")").toString();
  }

  private static void methods(Class<?> face) {
    Set<String> due = new TreeSet<>(FACE.lines().toList());
    Set<String> seen = new TreeSet<>();
    Set<String> names = new TreeSet<>();
    for (Method method : face.getDeclaredMethods()) {
      if (Modifier.isPublic(method.getModifiers())) {
        seen.add(nameOf(method));
        names.add(method.getName());
      }
    }
    Checks.dueText("public methods", seen.toString(), due.toString());
    for (Method method : face.getDeclaredMethods()) {
      if (!Modifier.isPublic(method.getModifiers())) {
        Checks.due(method + " is private", Modifier.isPrivate(method.getModifiers()) ? 1 : 0, 1);
        Checks.due(method + " bears no public name", names.contains(method.getName()) ? 1 : 0, 0);
      }
    }
  }

  private static void constants(Class<?> face) throws Exception {
    String[] names = {"UNKNOWN", "OUTSIDE", "STATE", "FULL", "NONE"};
    for (int i = 0; i < names.length; i++) {
      Checks.due(names[i], face.getField(names[i]).getInt(null), -1 - i);
    }
    for (Field field : face.getDeclaredFields()) {
      boolean named = java.util.List.of(names).contains(field.getName());
      Checks.due(field + " is as open as it may be", field.getModifiers() & (Modifier.PUBLIC | Modifier.PRIVATE), named ? Modifier.PUBLIC : Modifier.PRIVATE);
      if (Modifier.isStatic(field.getModifiers())) {
        Checks.due(field + " is final", Modifier.isFinal(field.getModifiers()) ? 1 : 0, 1);
      }
    }
  }

  private static void nested(Class<?> face) {
    Checks.due("at most twelve classes", face.getDeclaredClasses().length <= 11 ? 1 : 0, 1);
    for (Class<?> inside : face.getDeclaredClasses()) {
      Checks.due(inside + " is static", Modifier.isStatic(inside.getModifiers()) ? 1 : 0, 1);
      Checks.due(inside + " is not public", Modifier.isPublic(inside.getModifiers()) ? 1 : 0, 0);
      int fields = 0;
      for (Field field : inside.getDeclaredFields()) {
        fields += field.isSynthetic() ? 0 : 1;
        Checks.due(field + " is no static state", Modifier.isStatic(field.getModifiers()) && !Modifier.isFinal(field.getModifiers()) ? 1 : 0, 0);
      }
      Checks.due(inside + " has at most twenty fields", fields <= 20 ? 1 : 0, 1);
      // Rule 12: a constructor that is given nothing can be handed nothing of an object that is being made.
      for (Constructor<?> constructor : inside.getDeclaredConstructors()) {
        Checks.due(constructor + " takes", constructor.getParameterCount(), 0);
      }
      for (Method method : inside.getDeclaredMethods()) {
        Checks.due(method + " takes at most seven", method.getParameterCount() <= 7 ? 1 : 0, 1);
      }
    }
  }

  private static void source(String text) {
    String bare = text.replaceAll("//[^\n]*", "").replaceAll("(?s)/\\*.*?\\*/", "");
    Matcher word = Pattern.compile("\\b(throw|throws|try|catch|finally|synchronized|assert|volatile|native|Object|System\\.(?!arraycopy)\\w+|\\w+Exact|package)\\b|->|::").matcher(bare);
    while (word.find()) {
      Checks.dueText("a word that the language does not have", word.group(), "");
    }
    Matcher imported = Pattern.compile("import\\s+([\\w.*]+);").matcher(bare);
    while (imported.find()) {
      Checks.dueText("what is imported", imported.group(1), "java.util.Arrays");
    }
  }
}
