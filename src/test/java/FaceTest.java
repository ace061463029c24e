import java.lang.reflect.Constructor;
import java.lang.reflect.Field;
import java.lang.reflect.Method;
import java.lang.reflect.Modifier;
import java.util.Set;
import java.util.TreeSet;

/** The public face, and rules 1, 5 and 11 of LANGUAGE.md as far as a compiled class shows them. */
public final class FaceTest {
  private static final Set<String> FACE = Set.of(
      "void reset()", "void poke(int,char)", "char peek(int)", "int step()", "void level(int)",
      "void wire(int,boolean)", "boolean line(int)", "int state(int)");

  private static final Checks checks = new Checks("FaceTest");

  public static void main(String[] args) {
    Class<?> face = WorkspaceMachine.class;
    checks.same("modifiers of the class", face.getModifiers(), Modifier.PUBLIC | Modifier.FINAL);
    Constructor<?>[] constructors = face.getDeclaredConstructors();
    checks.same("constructors", constructors.length, 1);
    checks.same("constructor's parameters", constructors[0].getParameterCount(), 0);
    checks.holds("the constructor is public", Modifier.isPublic(constructors[0].getModifiers()));
    methodsAreTheFace(face);
    fieldsArePrivate(face);
    for (Class<?> inside : face.getDeclaredClasses()) {
      checks.holds(inside + " is static", Modifier.isStatic(inside.getModifiers()));
      fieldsArePrivate(inside);
    }
    checks.end();
  }

  private static void methodsAreTheFace(Class<?> face) {
    Set<String> names = new TreeSet<>();
    Set<String> found = new TreeSet<>();
    for (Method method : face.getDeclaredMethods()) {
      if (Modifier.isPublic(method.getModifiers())) {
        names.add(method.getName());
        found.add(written(method));
      }
    }
    checks.holds("public methods " + found, found.equals(new TreeSet<>(FACE)));
    for (Method method : face.getDeclaredMethods()) {
      boolean isPublic = Modifier.isPublic(method.getModifiers());
      checks.holds(method + " is public or private", isPublic || Modifier.isPrivate(method.getModifiers()));
      checks.holds(method + " has a name of its own", isPublic || !names.contains(method.getName()));
      checks.holds(method + " has at most seven parameters", method.getParameterCount() <= 7);
    }
  }

  private static String written(Method method) {
    StringBuilder text = new StringBuilder(method.getReturnType() + " " + method.getName() + "(");
    String comma = "";
    for (Class<?> type : method.getParameterTypes()) {
      text.append(comma).append(type);
      comma = ",";
    }
    return text.append(')').toString();
  }

  private static void fieldsArePrivate(Class<?> type) {
    for (Field field : type.getDeclaredFields()) {
      int modifiers = field.getModifiers();
      checks.holds(field + " is private", Modifier.isPrivate(modifiers));
      checks.holds(field + " is no static state", !Modifier.isStatic(modifiers) || Modifier.isFinal(modifiers));
    }
  }
}
