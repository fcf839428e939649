import java.lang.reflect.Constructor;
import java.lang.reflect.Field;
import java.lang.reflect.Method;
import java.lang.reflect.Modifier;
import java.util.Set;
import java.util.TreeSet;

/** The face of the class is the document's, and nothing else can be seen of it. */
public final class FaceTest {
  private static final String[] FACE = {
    "int feed(int,int,int,int,int)", "boolean end(int)", "int colony()", "int fault()", "int man(int,int)",
    "int did(int,int)", "int deed(int,int)", "int owes(int,int)", "int kin(int)", "int cell(int,int)",
    "int kept(int,int)", "int now(int)", "int act(int,int)", "int lend(int,int,int)", "int back(int)",
    "int borrow(int,int,int)", "int pay(int,int,int)", "int sit(int)", "int years(int)", "int undo()",
    "int family(int)", "int balance(int,int)", "int help(int)", "int helping()", "long may()", "int mayBe(int)",
    "int career(int,int)", "int careerOf(int)", "int hide(int)", "int heaviest()", "int caption(int)",
    "int byteAt(int)", "int drawn(int,int)", "int odds(int,int,int)", "int book(int)", "int told(int)",
    "int sentence()", "int said(int)", "boolean image(int)", "boolean restore(int)", "int count(int)",
  };

  public static void main(String[] args) {
    Set<String> due = new TreeSet<>(Set.of(FACE));
    Set<String> names = new TreeSet<>();
    Set<String> seen = new TreeSet<>();
    for (Method m : LikenessPound.class.getDeclaredMethods()) {
      if (!Modifier.isPrivate(m.getModifiers())) {
        seen.add(told(m));
        names.add(m.getName());
      }
    }
    Checks.dueText("the face", seen.toString(), due.toString());
    for (Method m : LikenessPound.class.getDeclaredMethods()) {
      if (Modifier.isPrivate(m.getModifiers())) {
        Checks.due("private " + m.getName() + " bears a public name", names.contains(m.getName()), false);
      }
    }
    for (Field f : LikenessPound.class.getDeclaredFields()) {
      boolean open = !Modifier.isPrivate(f.getModifiers());
      Checks.due("field " + f.getName() + " is seen", open, f.getName().equals("NONE"));
      if (Modifier.isStatic(f.getModifiers())) {
        Checks.due("static " + f.getName() + " is final", Modifier.isFinal(f.getModifiers()), true);
      }
    }
    for (Constructor<?> c : LikenessPound.class.getDeclaredConstructors()) {
      Checks.due("a constructor's arguments", c.getParameterCount(), 0);
      Checks.due("a constructor is public", Modifier.isPublic(c.getModifiers()), true);
    }
    Class<?>[] inside = LikenessPound.class.getDeclaredClasses();
    Checks.due("some twelve classes at most", inside.length < 12, true);
    for (Class<?> c : inside) {
      Checks.due(c.getName() + " is static", Modifier.isStatic(c.getModifiers()), true);
      for (Method m : c.getDeclaredMethods()) {
        Checks.due(m.getName() + " inside bears a public name", names.contains(m.getName()), false);
      }
    }
    Checks.due("the class is final", Modifier.isFinal(LikenessPound.class.getModifiers()), true);
    Checks.due("NONE", LikenessPound.NONE, -1);
    Checks.finish("FaceTest");
  }

  private static String told(Method m) {
    StringBuilder text = new StringBuilder(m.getReturnType().getName()).append(' ').append(m.getName()).append('(');
    for (Class<?> p : m.getParameterTypes()) {
      text.append(text.charAt(text.length() - 1) == '(' ? "" : ",").append(p.getName());
    }
    return text.append(')').toString();
  }
}
