import java.io.IOException;
import java.lang.reflect.Method;
import java.lang.reflect.Modifier;
import java.nio.file.Files;
import java.nio.file.Path;
import java.util.Set;
import java.util.TreeSet;
import java.util.regex.Matcher;
import java.util.regex.Pattern;

/** README.md tells the whole face, and its run of calls answers what it says there. */
public final class ReadmeTest {
  private static final String NEW = "LikenessPound x = new LikenessPound();";
  private static final Pattern TEXT = Pattern.compile("tape\\(x, \"([^\"]*)\"\\);");
  private static final Pattern CALL = Pattern.compile("x\\.(\\w+)\\(([^)]*)\\); +// (-?\\d+|true|false)\\b.*");
  private static final Pattern FACE = Pattern.compile("(?m)^\\| `(\\w+ \\w+\\([^)]*\\))` \\| \\S");

  public static void main(String[] args) throws ReflectiveOperationException, IOException {
    String readme = Files.readString(Path.of("README.md"));
    face(readme);
    example(readme);
    Checks.finish("ReadmeTest");
  }

  private static void face(String readme) {
    Set<String> told = new TreeSet<>();
    Matcher found = FACE.matcher(readme);
    while (found.find()) {
      told.add(found.group(1).replaceAll("(\\w+) \\w+(?=[,)])", "$1"));
    }
    Set<String> due = new TreeSet<>();
    for (Method m : LikenessPound.class.getDeclaredMethods()) {
      if (Modifier.isPublic(m.getModifiers())) {
        due.add(headOf(m));
      }
    }
    Checks.dueText("the face in README.md", told.toString(), due.toString());
  }

  private static String headOf(Method m) {
    StringBuilder types = new StringBuilder();
    for (Class<?> p : m.getParameterTypes()) {
      types.append(types.length() == 0 ? "" : ", ").append(p.getName());
    }
    return m.getReturnType().getName() + " " + m.getName() + "(" + types + ")";
  }

  private static void example(String readme) throws ReflectiveOperationException {
    int from = readme.indexOf(NEW);
    int to = readme.indexOf("```", Math.max(0, from));
    Checks.due("README.md has a run of calls", from >= 0 && to > from, true);
    LikenessPound x = new LikenessPound();
    int calls = 0;
    for (String line : readme.substring(from + NEW.length(), to).strip().split("\n")) {
      Matcher text = TEXT.matcher(line);
      Matcher call = CALL.matcher(line);
      if (text.matches()) {
        Checks.tape(x, text.group(1));
      } else if (call.matches()) {
        Checks.dueText("README.md: " + line, answer(x, call.group(1), call.group(2)), call.group(3));
        calls++;
      } else {
        Checks.dueText("README.md: a line of the run", line, "a text or a call with its answer");
      }
    }
    Checks.due("the run has many calls", calls > 20, true);
  }

  private static String answer(LikenessPound x, String name, String arguments) throws ReflectiveOperationException {
    String[] parts = arguments.isEmpty() ? new String[0] : arguments.split(", ");
    Class<?>[] types = new Class<?>[parts.length];
    Object[] values = new Object[parts.length];
    for (int i = 0; i < parts.length; i++) {
      types[i] = int.class;
      values[i] = Integer.valueOf(parts[i]);
    }
    return String.valueOf(LikenessPound.class.getMethod(name, types).invoke(x, values));
  }
}
