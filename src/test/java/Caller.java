import java.lang.reflect.InvocationTargetException;
import java.lang.reflect.Method;
import java.util.HashMap;
import java.util.Map;

/** Makes calls by their names and tells in words how they ended. */
final class Caller {
  private final Map<String, Method> methods = new HashMap<>();

  Caller(Class<?> face) {
    for (Method method : face.getDeclaredMethods()) {
      if (!java.lang.reflect.Modifier.isPrivate(method.getModifiers())) {
        method.setAccessible(true);
        methods.put(method.getName(), method);
      }
    }
  }

  /** The answer as a number, true, false or void, or throws. with the exception's name behind it. */
  String call(Object on, String name, String... arguments) throws IllegalAccessException {
    Method method = methods.get(name);
    if (method == null || method.getParameterCount() != arguments.length) {
      return "no such call";
    }
    Class<?>[] types = method.getParameterTypes();
    Object[] values = new Object[arguments.length];
    for (int i = 0; i < values.length; i++) {
      values[i] = valueOf(types[i], arguments[i].trim());
    }
    try {
      Object answer = method.invoke(on, values);
      return method.getReturnType() == void.class ? "void" : String.valueOf(answer);
    } catch (InvocationTargetException e) {
      return "throws." + e.getCause().getClass().getSimpleName();
    }
  }

  private static Object valueOf(Class<?> type, String word) {
    if (type == boolean.class) {
      return Boolean.valueOf(word);
    }
    String number = word.equals("NONE") ? "-1" : word;
    return type == long.class ? (Object) Long.valueOf(number) : (Object) Integer.valueOf(number);
  }
}
