import java.io.IOException;
import java.lang.reflect.Constructor;
import java.lang.reflect.Field;
import java.lang.reflect.Method;
import java.lang.reflect.Modifier;
import java.nio.file.Files;
import java.nio.file.Path;
import java.util.ArrayList;
import java.util.List;
import java.util.Set;
import java.util.regex.Matcher;
import java.util.regex.Pattern;

/** Those rules of LANGUAGE.md that can be seen in the source, or by looking at the classes. */
public final class LanguageTest {
  private static final String SOURCE = "src/main/java/LikenessPound.java";
  private static final Set<String> LIBRARY = Set.of("System.arraycopy", "Math.min", "Math.max", "Math.abs",
      "Integer.bitCount", "Arrays.fill", "Arrays.copyOf");
  private static final String[] NEVER = {"package", "synchronized", "assert", "finally", "try", "catch", "native",
    "volatile", "transient", "protected", "double", "float"};

  public static void main(String[] args) throws IOException {
    List<Class<?>> classes = new ArrayList<>(List.of(LikenessPound.class.getDeclaredClasses()));
    classes.add(LikenessPound.class);
    String code = bare(Files.readString(Path.of(SOURCE)));
    imports(code);
    words(code);
    library(code);
    thrown(code);
    methodLengths(code);
    fields(classes);
    parameters(classes);
    Checks.due("rule 11: some twelve classes at most", classes.size() <= 12, true);
    Checks.finish("LanguageTest");
  }

  /** The source without comments, and with its texts empty. */
  private static String bare(String source) {
    return source.replaceAll("(?s)/\\*.*?\\*/", "").replaceAll("//[^\n]*", "").replaceAll("\"[^\"\n]*\"", "\"\"");
  }

  private static void imports(String code) {
    Matcher found = Pattern.compile("(?m)^import .*$").matcher(code);
    while (found.find()) {
      Checks.dueText("rule 4: an import", found.group(), "import java.util.NoSuchElementException;");
    }
  }

  private static void words(String code) {
    for (String word : NEVER) {
      Checks.due("'" + word + "' stands in the source", Pattern.compile("\\b" + word + "\\b").matcher(code).find(), false);
    }
    Checks.due("rule 2: a lambda", code.contains("->"), false);
    Checks.due("rule 2: a method reference", code.contains("::"), false);
    Checks.due("rule 4: Exact", code.contains("Exact("), false);
    Checks.due("rule 5: a static block", Pattern.compile("\\bstatic\\s*\\{").matcher(code).find(), false);
  }

  private static void library(String code) {
    Matcher found = Pattern.compile("\\b(System|Math|Integer|Long|Arrays|Character|Boolean)\\.\\w+").matcher(code);
    while (found.find()) {
      Checks.due("rule 4: " + found.group(), LIBRARY.contains(found.group()), true);
    }
  }

  private static void thrown(String code) {
    Matcher found = Pattern.compile("\\bthrow\\b[^;]*;").matcher(code);
    while (found.find()) {
      Checks.dueText("rule 6: what is thrown", found.group(), "throw new NoSuchElementException();");
    }
  }

  /** A method begins at its brace and ends at the brace that stands as far in as its first line. */
  private static void methodLengths(String code) {
    String[] lines = code.split("\n");
    Pattern head = Pattern.compile("^( +)[\\w\\[\\]. ]*\\w+\\([^;]*\\)( throws \\w+)? \\{$");
    for (int i = 0; i < lines.length; i++) {
      Matcher found = head.matcher(lines[i]);
      boolean opens = found.matches() && !lines[i].matches(" +(if|for|while|switch|do|else|return)\\b.*");
      if (opens) {
        int end = i;
        while (end < lines.length && !lines[end].equals(found.group(1) + "}")) {
          end++;
        }
        Checks.due("rule 11: sixty lines at most:" + lines[i], end - i < 60, true);
      }
    }
  }

  private static void fields(List<Class<?>> classes) {
    for (Class<?> c : classes) {
      int own = 0;
      for (Field f : c.getDeclaredFields()) {
        boolean isStatic = Modifier.isStatic(f.getModifiers());
        own += isStatic ? 0 : 1;
        if (isStatic) {
          Checks.due("rule 5: " + f.getName() + " is final", Modifier.isFinal(f.getModifiers()), true);
          boolean plain = f.getType() == int.class || f.getType() == String.class;
          Checks.due("rule 5: " + f.getName() + " is a number or a text", plain, true);
        }
      }
      Checks.due("rule 11: some twenty fields of " + c.getSimpleName(), own <= 20, true);
    }
  }

  private static void parameters(List<Class<?>> classes) {
    for (Class<?> c : classes) {
      for (Method m : c.getDeclaredMethods()) {
        Checks.due("rule 11: seven parameters of " + m.getName(), m.getParameterCount() <= 7, true);
      }
      for (Constructor<?> made : c.getDeclaredConstructors()) {
        Checks.due("rule 11: parameters of " + c.getSimpleName(), made.getParameterCount() <= 7, true);
      }
    }
  }
}
