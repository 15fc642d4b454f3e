import java.lang.reflect.Constructor;
import java.lang.reflect.Field;
import java.lang.reflect.Method;
import java.lang.reflect.Modifier;
import java.util.TreeSet;

/** The public face: the members of the document, and no others that can be seen; and that no argument makes a call throw. */
public final class FaceTest {
  private static final Check check = new Check("FaceTest");
  private static final String FACE = "int letters(long); int blank(); int fault(int); int net(); int lane(int,int); "
      + "int walker(int,int,int,int); int about(int,int); int as(int,int); int way(int); int load(int,int); int pass(int,int); "
      + "int heap(int,int); int take(int,int); int minutes(int); int first(int); int soonest(int); int wider(int); int enough(int); "
      + "int fits(int); int sure(int,int); int crowd(int,int,int); int image(); int restore(); int count(int); long digest()";
  private static final int[] ODD = {Integer.MIN_VALUE, -21, -1, 0, 1, 2, 3, 5, 7, 8, 20, 31, 60, 100, 1 << 30, Integer.MAX_VALUE};

  public static void main(String[] args) throws Exception {
    members();
    constants();
    for (Method method : CarryAlike.class.getMethods()) {
      if (method.getDeclaringClass() == CarryAlike.class) {
        oddArguments(method, new CarryAlike());
        for (int walkers = 0; walkers <= 5; walkers++) {
          oddArguments(method, withWalkers(walkers));
        }
      }
    }
    check.end();
  }

  private static void members() {
    TreeSet<String> due = new TreeSet<>();
    for (String one : FACE.split("; ")) {
      due.add(one);
    }
    TreeSet<String> seen = new TreeSet<>();
    for (Method method : CarryAlike.class.getDeclaredMethods()) {
      if (!Modifier.isPrivate(method.getModifiers())) {
        StringBuilder text = new StringBuilder(method.getReturnType() + " " + method.getName() + "(");
        for (Class<?> type : method.getParameterTypes()) {
          text.append(text.charAt(text.length() - 1) == '(' ? "" : ",").append(type);
        }
        seen.add(text.append(")").toString());
        check.due(method.getName() + " is public, of the object", method.getModifiers(), Modifier.PUBLIC);
      }
    }
    check.due("the methods " + seen + " are those of the face", seen.equals(due) ? 1 : 0, 1);
    for (Method method : CarryAlike.class.getDeclaredMethods()) {
      boolean twice = Modifier.isPrivate(method.getModifiers()) && FACE.contains(" " + method.getName() + "(");
      check.due("private " + method.getName() + " bears another name", twice ? 1 : 0, 0);
    }
    Constructor<?>[] made = CarryAlike.class.getDeclaredConstructors();
    check.due("constructors", made.length, 1);
    check.due("it is public", made[0].getModifiers(), Modifier.PUBLIC);
    check.due("the class is public and final", CarryAlike.class.getModifiers(), Modifier.PUBLIC | Modifier.FINAL);
    for (Class<?> inside : CarryAlike.class.getDeclaredClasses()) {
      check.due(inside.getName() + " is static", inside.getModifiers() & Modifier.STATIC, Modifier.STATIC);
      check.due(inside.getName() + " is not public", inside.getModifiers() & (Modifier.PUBLIC | Modifier.PROTECTED), 0);
    }
  }

  private static void constants() throws Exception {
    String[] names = {"NONE", "UNKNOWN", "OUTSIDE", "STATE", "FULL"};
    int[] values = {-1, -101, -102, -103, -104};
    int seen = 0;
    for (Field field : CarryAlike.class.getDeclaredFields()) {
      seen += Modifier.isPrivate(field.getModifiers()) ? 0 : 1;
    }
    check.due("constants of the face", seen, names.length);
    for (int i = 0; i < names.length; i++) {
      check.due(names[i], CarryAlike.class.getField(names[i]).getInt(null), values[i]);
    }
  }

  private static CarryAlike withWalkers(int walkers) {
    CarryAlike x = Check.withNet("01,12,20=;dw");
    for (int i = 0; i < walkers; i++) {
      Check.walker(x, i % 4, i % 3, 2 - i % 3, 4 * i, "012012");
    }
    return x;
  }

  /** Each odd argument, in turn with sound ones for the rest, to see that nothing is thrown. */
  private static void oddArguments(Method method, CarryAlike x) throws Exception {
    Class<?>[] types = method.getParameterTypes();
    if (types.length == 0) {
      check.due(method.getName() + " answers", method.invoke(x) instanceof Number ? 1 : 0, 1);
    }
    for (int place = 0; place < types.length; place++) {
      for (int odd : ODD) {
        Object[] values = new Object[types.length];
        for (int i = 0; i < types.length; i++) {
          int value = i == place ? odd : types[i] == long.class ? 48 : 1;
          values[i] = types[i] == long.class ? (Object) Long.valueOf(value) : (Object) Integer.valueOf(value);
        }
        long answer = ((Number) method.invoke(x, values)).longValue();
        check.due(method.getName() + " answers no less than FULL", answer >= CarryAlike.FULL ? 1 : 0, 1);
      }
    }
  }
}
