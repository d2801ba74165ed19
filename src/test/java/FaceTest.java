import java.io.IOException;
import java.lang.reflect.Constructor;
import java.lang.reflect.Field;
import java.lang.reflect.Method;
import java.lang.reflect.Modifier;
import java.nio.file.Files;
import java.nio.file.Path;
import java.util.Arrays;
import java.util.TreeSet;

/** The class as it is seen from outside: the document's face, and nothing else. */
public final class FaceTest {
  private static final String[] FACE = {
    "int hang(int,int) IndexOutOfBoundsException IllegalArgumentException IllegalStateException",
    "int tie(int,int) IndexOutOfBoundsException IllegalArgumentException",
    "int untie(int,int,int,int) IndexOutOfBoundsException IllegalArgumentException IllegalStateException",
    "int mend(int) IndexOutOfBoundsException",
    "int cord(int,int) IndexOutOfBoundsException",
    "int place(int,int,int) IndexOutOfBoundsException",
    "int call() IllegalStateException",
    "int read(int,int) IndexOutOfBoundsException",
    "int remembers(int,int,int) IndexOutOfBoundsException",
    "int trust(int) IndexOutOfBoundsException",
    "int dispute(int) IndexOutOfBoundsException IllegalStateException",
    "int untying(int,int) IndexOutOfBoundsException",
    "int pass(int) IllegalArgumentException",
    "int count(int) IndexOutOfBoundsException",
    "int fades(int,int) IndexOutOfBoundsException IllegalArgumentException",
    "int amends(int) IndexOutOfBoundsException",
    "int weighs()",
    "int line(int) IndexOutOfBoundsException",
    "double mean()",
    "long digest()",
  };

  /** "Ahead of the calls ... the interface says": each heading with the calls that stand behind it. */
  private static final String[] ORDER = {
    "---- cords", "hang", "tie", "untie", "mend", "cord", "place",
    "---- witnesses", "call", "read", "remembers", "trust", "dispute", "untying",
    "---- years and looking", "pass", "count", "fades", "amends", "weighs", "line", "mean", "digest",
  };

  public static void main(String[] args) throws IOException {
    Checks checks = new Checks("FaceTest");
    Class<?> face = KnotArchive.class;
    checks.holds("the class is public and final",
        Modifier.isPublic(face.getModifiers()) && Modifier.isFinal(face.getModifiers()));
    methods(checks, face);
    Constructor<?>[] constructors = face.getDeclaredConstructors();
    checks.holds("there is one constructor, public and without parameters", constructors.length == 1
        && Modifier.isPublic(constructors[0].getModifiers()) && constructors[0].getParameterCount() == 0);
    for (Field field : face.getDeclaredFields()) {
      checks.holds("the field " + field.getName() + " is private", Modifier.isPrivate(field.getModifiers()));
    }
    for (Class<?> inside : face.getDeclaredClasses()) {
      checks.holds("the class " + inside.getName() + " is static and neither public nor protected",
          Modifier.isStatic(inside.getModifiers())
              && (inside.getModifiers() & (Modifier.PUBLIC | Modifier.PROTECTED)) == 0);
    }
    order(checks);
    checks.end();
  }

  private static void order(Checks checks) throws IOException {
    String source = Files.readString(Path.of("src/main/java/KnotArchive.java"));
    int at = source.indexOf("public KnotArchive()");
    for (String next : ORDER) {
      String sign = next.startsWith("----") ? "\n  // " + next + "\n" : " " + next + "(";
      int found = next.startsWith("----") ? source.indexOf(sign, at) : publicMethod(source, sign, at);
      checks.holds(next + " stands where the document has it", at >= 0 && found > at);
      at = found;
    }
  }

  private static int publicMethod(String source, String sign, int from) {
    for (int start = source.indexOf("\n  public ", from); start >= 0; start = source.indexOf("\n  public ", start + 1)) {
      int found = source.indexOf(sign, start);
      if (found >= 0 && found < source.indexOf('\n', start + 1)) {
        return found;
      }
    }
    return -1;
  }

  private static void methods(Checks checks, Class<?> face) {
    TreeSet<String> seen = new TreeSet<>();
    TreeSet<String> publicNames = new TreeSet<>();
    for (Method method : face.getDeclaredMethods()) {
      if (!Modifier.isPrivate(method.getModifiers())) {
        seen.add(told(method));
        publicNames.add(method.getName());
        checks.holds(method.getName() + " is a public method of an object",
            Modifier.isPublic(method.getModifiers()) && !Modifier.isStatic(method.getModifiers()));
      }
    }
    TreeSet<String> due = new TreeSet<>(Arrays.asList(FACE));
    checks.holds("the methods are " + seen + ", due are " + due, seen.equals(due));
    privateNames(checks, face, publicNames);
    for (Class<?> inside : face.getDeclaredClasses()) {
      privateNames(checks, inside, publicNames);
    }
  }

  private static void privateNames(Checks checks, Class<?> owner, TreeSet<String> publicNames) {
    for (Method method : owner.getDeclaredMethods()) {
      if (Modifier.isPrivate(method.getModifiers())) {
        checks.holds(method.getName() + " does not bear the name of a public method",
            !publicNames.contains(method.getName()));
      }
    }
  }

  private static String told(Method method) {
    StringBuilder text = new StringBuilder();
    text.append(method.getReturnType().getName()).append(' ').append(method.getName()).append('(');
    String between = "";
    for (Class<?> parameter : method.getParameterTypes()) {
      text.append(between).append(parameter.getName());
      between = ",";
    }
    text.append(')');
    for (Class<?> thrown : method.getExceptionTypes()) {
      text.append(' ').append(thrown.getSimpleName());
    }
    return text.toString();
  }
}
