import java.lang.reflect.Constructor;
import java.lang.reflect.Field;
import java.lang.reflect.Method;
import java.lang.reflect.Modifier;
import java.util.Arrays;
import java.util.Set;
import java.util.TreeSet;

/** The public face is the document's, and nothing besides. */
public final class FaceTests {
  private static final String[] FACE = {
    "int person(int,int)",
    "int span(int,int,int,int)",
    "int slept(int,int,int,boolean)",
    "int stamp(int,int,int,int)",
    "int drop(int,boolean)",
    "int mark(int,int)",
    "int can(int,int)",
    "int nights(int,int,int,int,boolean)",
    "int sure(int,int,int)",
    "int join(int,int)",
    "int law(int,int,int)",
    "int kept(int,int,int)",
    "int first(int,int,int,boolean)",
    "int broken(int)",
    "int free(int,int,int,int)",
    "int trip(int,int,int,int,int)",
    "int claim(int,int)",
    "int claims(int,int,int)",
    "int treaty(int,int,int)",
    "int decides(int,int,int,int)",
    "int taxed(int,int)",
    "int quarrels()",
    "int count(int)",
    "int keep(int,int,int)",
    "int make(int,int,int)",
    "long element(int,int) throws IllegalArgumentException IllegalStateException",
    "int copy(int,int,int,int,int)",
    "int weight(int)",
    "int toss(int)",
  };

  public static void main(String[] args) {
    Class<?> face = NightBook.class;
    Due.holds("public and final", Modifier.isPublic(face.getModifiers()) && Modifier.isFinal(face.getModifiers()));
    Due.holds("no package", face.getPackageName().isEmpty());

    Set<String> names = new TreeSet<>();
    Set<String> found = new TreeSet<>();
    for (Method method : face.getDeclaredMethods()) {
      if (!Modifier.isPrivate(method.getModifiers()) && !method.isSynthetic()) {
        found.add(told(method));
        names.add(method.getName());
        Due.holds(method + " is of an object", Modifier.isPublic(method.getModifiers())
            && !Modifier.isStatic(method.getModifiers()));
      }
    }
    Set<String> wanted = new TreeSet<>(Arrays.asList(FACE));
    for (String method : wanted) {
      Due.holds("has " + method, found.contains(method));
    }
    for (String method : found) {
      Due.holds("the document has " + method, wanted.contains(method));
    }
    for (Method method : face.getDeclaredMethods()) {
      if (Modifier.isPrivate(method.getModifiers())) {
        Due.holds("private " + method.getName() + " bears a name of its own", !names.contains(method.getName()));
      }
    }
    for (Field field : face.getDeclaredFields()) {
      Due.holds(field + " is private", Modifier.isPrivate(field.getModifiers()));
      Due.holds(field + ": static fields are final",
          !Modifier.isStatic(field.getModifiers()) || Modifier.isFinal(field.getModifiers()));
    }
    Constructor<?>[] made = face.getDeclaredConstructors();
    Due.is("constructors", made.length, 1);
    Due.holds("the constructor is public, of nothing",
        Modifier.isPublic(made[0].getModifiers()) && made[0].getParameterCount() == 0);
    Due.end("FaceTests");
  }

  private static String told(Method method) {
    StringBuilder text = new StringBuilder();
    text.append(method.getReturnType().getName()).append(' ').append(method.getName()).append('(');
    for (int i = 0; i < method.getParameterCount(); i++) {
      text.append(i == 0 ? "" : ",").append(method.getParameterTypes()[i].getName());
    }
    text.append(')');
    Class<?>[] thrown = method.getExceptionTypes();
    for (int i = 0; i < thrown.length; i++) {
      text.append(i == 0 ? " throws " : " ").append(thrown[i].getSimpleName());
    }
    return text.toString();
  }
}
