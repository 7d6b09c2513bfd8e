import java.lang.reflect.Constructor;
import java.lang.reflect.Field;
import java.lang.reflect.Method;
import java.lang.reflect.Modifier;
import java.util.Arrays;
import java.util.TreeSet;

/** The public face is the document's, and nothing beside it can be seen from outside. */
public final class FaceTest {
  private static final String[] METHODS = {
    "int bag(int)", "int into(int,int)", "int take(int)", "int close(int,long,int)",
    "int open(int,long,int,int)", "int found(int,int)", "int differ(int,int,int)",
    "int inside(int)", "int weight(int,long)", "int document(int,int)", "int move(int,int)",
    "int place(int)", "int tick(long)"
  };

  public static void main(String[] args) {
    constants();
    methods();
    constructorsAndClasses();
    Check.end();
  }

  private static void constants() {
    Check.due("UNKNOWN", BagRows.UNKNOWN, -11);
    Check.due("OUTSIDE", BagRows.OUTSIDE, -12);
    Check.due("STATE", BagRows.STATE, -13);
    Check.due("ROOM", BagRows.ROOM, -14);
    int seen = 0;
    for (Field field : BagRows.class.getDeclaredFields()) {
      if (!Modifier.isPrivate(field.getModifiers())) {
        seen++;
        int face = Modifier.PUBLIC | Modifier.STATIC | Modifier.FINAL;
        Check.due("modifiers of " + field.getName(), field.getModifiers(), face);
      }
    }
    Check.due("fields seen from outside", seen, 4);
  }

  private static void methods() {
    TreeSet<String> seen = new TreeSet<>();
    TreeSet<String> publicNames = new TreeSet<>();
    TreeSet<String> privateNames = new TreeSet<>();
    for (Method method : BagRows.class.getDeclaredMethods()) {
      if (Modifier.isPrivate(method.getModifiers())) {
        privateNames.add(method.getName());
      } else if (!method.isSynthetic()) {
        Check.due("modifiers of " + method, method.getModifiers(), Modifier.PUBLIC);
        seen.add(signature(method));
        publicNames.add(method.getName());
      }
    }
    TreeSet<String> want = new TreeSet<>(Arrays.asList(METHODS));
    Check.holds("the methods are " + want + " but were " + seen, seen.equals(want));
    privateNames.retainAll(publicNames);
    Check.holds("no private method bears a public name: " + privateNames, privateNames.isEmpty());
  }

  private static String signature(Method method) {
    StringBuilder text = new StringBuilder();
    text.append(method.getReturnType().getName()).append(' ').append(method.getName()).append('(');
    Class<?>[] types = method.getParameterTypes();
    for (int i = 0; i < types.length; i++) {
      text.append(i == 0 ? "" : ",").append(types[i].getName());
    }
    return text.append(')').toString();
  }

  private static void constructorsAndClasses() {
    Constructor<?>[] constructors = BagRows.class.getDeclaredConstructors();
    Check.due("constructors", constructors.length, 1);
    Check.due("its modifiers", constructors[0].getModifiers(), Modifier.PUBLIC);
    Check.due("its parameters", constructors[0].getParameterCount(), 0);
    Check.due("modifiers of the class", BagRows.class.getModifiers(),
        Modifier.PUBLIC | Modifier.FINAL);
    for (Class<?> inner : BagRows.class.getDeclaredClasses()) {
      int modifiers = inner.getModifiers();
      Check.holds(inner + " is static and not public",
          Modifier.isStatic(modifiers) && !Modifier.isPublic(modifiers)
              && !Modifier.isProtected(modifiers));
    }
  }
}
