import java.lang.reflect.Constructor;
import java.lang.reflect.Field;
import java.lang.reflect.Method;
import java.lang.reflect.Modifier;
import java.util.Arrays;
import java.util.TreeSet;

/** The class as it is seen from outside: the document's face, and nothing else. */
public final class FaceTest {
  private static final String[] FACE = {
    "int hang(int,int) IndexOutOfBoundsException IllegalArgumentException IllegalStateException",
    "int tie(int,int) IndexOutOfBoundsException IllegalArgumentException",
    "int untie(int,int,int,int) IndexOutOfBoundsException IllegalArgumentException IllegalStateException",
    "int mend(int) IndexOutOfBoundsException",
    "int cord(int,int) IndexOutOfBoundsException",
    "int place(int,int,int) IndexOutOfBoundsException",
    "int call() IllegalStateException",
    "int read(int,int) IndexOutOfBoundsException",
    "int remembers(int,int,int) IndexOutOfBoundsException",
    "int trust(int) IndexOutOfBoundsException",
    "int dispute(int) IndexOutOfBoundsException IllegalStateException",
    "int untying(int,int) IndexOutOfBoundsException",
    "int pass(int) IllegalArgumentException",
    "int count(int) IndexOutOfBoundsException",
    "int fades(int,int) IndexOutOfBoundsException IllegalArgumentException",
    "int amends(int) IndexOutOfBoundsException",
    "int weighs()",
    "int line(int) IndexOutOfBoundsException",
    "double mean()",
    "long digest()",
  };

  public static void main(String[] args) {
    Checks checks = new Checks("FaceTest");
    Class<?> face = KnotArchive.class;
    checks.holds("the class is public and final",
        Modifier.isPublic(face.getModifiers()) && Modifier.isFinal(face.getModifiers()));
    methods(checks, face);
    Constructor<?>[] constructors = face.getDeclaredConstructors();
    checks.holds("there is one constructor, public and without parameters", constructors.length == 1
        && Modifier.isPublic(constructors[0].getModifiers()) && constructors[0].getParameterCount() == 0);
    for (Field field : face.getDeclaredFields()) {
      checks.holds("the field " + field.getName() + " is private", Modifier.isPrivate(field.getModifiers()));
    }
    for (Class<?> inside : face.getDeclaredClasses()) {
      checks.holds("the class " + inside.getName() + " is static and neither public nor protected",
          Modifier.isStatic(inside.getModifiers())
              && (inside.getModifiers() & (Modifier.PUBLIC | Modifier.PROTECTED)) == 0);
    }
    checks.end();
  }

  private static void methods(Checks checks, Class<?> face) {
    TreeSet<String> seen = new TreeSet<>();
    TreeSet<String> publicNames = new TreeSet<>();
    for (Method method : face.getDeclaredMethods()) {
      if (!Modifier.isPrivate(method.getModifiers())) {
        seen.add(told(method));
        publicNames.add(method.getName());
        checks.holds(method.getName() + " is a public method of an object",
            Modifier.isPublic(method.getModifiers()) && !Modifier.isStatic(method.getModifiers()));
      }
    }
    TreeSet<String> due = new TreeSet<>(Arrays.asList(FACE));
    checks.holds("the methods are " + seen + ", due are " + due, seen.equals(due));
    privateNames(checks, face, publicNames);
    for (Class<?> inside : face.getDeclaredClasses()) {
      privateNames(checks, inside, publicNames);
    }
  }

  private static void privateNames(Checks checks, Class<?> owner, TreeSet<String> publicNames) {
    for (Method method : owner.getDeclaredMethods()) {
      if (Modifier.isPrivate(method.getModifiers())) {
        checks.holds(method.getName() + " does not bear the name of a public method",
            !publicNames.contains(method.getName()));
      }
    }
  }

  private static String told(Method method) {
    StringBuilder text = new StringBuilder();
    text.append(method.getReturnType().getName()).append(' ').append(method.getName()).append('(');
    String between = "";
    for (Class<?> parameter : method.getParameterTypes()) {
      text.append(between).append(parameter.getName());
      between = ",";
    }
    text.append(')');
    for (Class<?> thrown : method.getExceptionTypes()) {
      text.append(' ').append(thrown.getSimpleName());
    }
    return text.toString();
  }
}
