import java.lang.reflect.Constructor;
import java.lang.reflect.Field;
import java.lang.reflect.Method;
import java.lang.reflect.Modifier;
import java.util.Set;
import java.util.TreeSet;

/** The public face of the document, and rule 1 of LANGUAGE.md. */
public final class FaceTest {
  private static final Set<String> METHODS = Set.of(
      "int write(int, int)", "int read(int)", "boolean leave(int)", "int deliver(int)", "boolean lose(int)",
      "boolean repeat(int)", "boolean fail(int)", "int messages()", "int message(int, int)", "int tag(int)",
      "int value(int)", "boolean failed(int)", "int phase(int)", "int answered(int)", "int finished()",
      "int operation(int, int)");

  public static void main(String[] args) {
    Class<?> type = QuorumRegister.class;
    Due.is("the class is public and final",
        Modifier.isPublic(type.getModifiers()) && Modifier.isFinal(type.getModifiers()), true);
    Set<String> open = new TreeSet<>();
    Set<String> openNames = new TreeSet<>();
    for (Method m : type.getDeclaredMethods()) {
      if (!Modifier.isPrivate(m.getModifiers())) {
        open.add(signature(m));
        openNames.add(m.getName());
        Due.is(m.getName() + " is public and not static",
            Modifier.isPublic(m.getModifiers()) && !Modifier.isStatic(m.getModifiers()), true);
      }
    }
    Due.is("the methods " + open + " are the document's", open.equals(METHODS), true);
    for (Method m : type.getDeclaredMethods()) {
      Due.is("private " + m.getName() + " bears a public name",
          Modifier.isPrivate(m.getModifiers()) && openNames.contains(m.getName()), false);
    }
    for (Field f : type.getDeclaredFields()) {
      Due.is(f.getName() + " is private", Modifier.isPrivate(f.getModifiers()), true);
    }
    Constructor<?>[] made = type.getDeclaredConstructors();
    Due.is("constructors", made.length, 1);
    Due.is("the constructor is public, without parameters",
        Modifier.isPublic(made[0].getModifiers()) && made[0].getParameterCount() == 0, true);
    Due.end();
  }

  private static String signature(Method m) {
    StringBuilder text = new StringBuilder(m.getReturnType().getName() + " " + m.getName() + "(");
    for (Class<?> p : m.getParameterTypes()) {
      text.append(text.charAt(text.length() - 1) == '(' ? "" : ", ").append(p.getName());
    }
    return text.append(")").toString();
  }
}
