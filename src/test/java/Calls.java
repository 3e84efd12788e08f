import java.lang.reflect.InvocationTargetException;
import java.lang.reflect.Method;
import java.lang.reflect.Modifier;
import java.util.Arrays;
import java.util.Map;
import java.util.TreeMap;

/** The calls of a class's face, found and made by name. */
final class Calls {
  static final Calls OF_PROGRAM = new Calls(CoalHoles.class);
  static final Calls OF_MODEL = new Calls(Model.class);

  private final Map<String, Method> methods = new TreeMap<>();

  private Calls(Class<?> type) {
    for (Method m : type.getDeclaredMethods()) {
      if (!Modifier.isPrivate(m.getModifiers())) {
        methods.put(m.getName(), m);
      }
    }
  }

  String[] names() {
    return methods.keySet().toArray(new String[0]);
  }

  int parameters(String name) {
    return methods.get(name).getParameterCount();
  }

  int answer(Object on, String name, int... with) {
    Object[] values = new Object[with.length];
    for (int i = 0; i < with.length; i++) {
      values[i] = with[i];
    }
    try {
      return (Integer) methods.get(name).invoke(on, values);
    } catch (InvocationTargetException e) {
      throw new IllegalStateException(told(name, with) + " has thrown", e.getCause());
    } catch (IllegalAccessException e) {
      throw new IllegalStateException(told(name, with) + " can't be called", e);
    }
  }

  static String told(String name, int... with) {
    String row = Arrays.toString(with);
    return name + "(" + row.substring(1, row.length() - 1) + ")";
  }
}
