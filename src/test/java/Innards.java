import java.lang.reflect.Array;
import java.lang.reflect.Field;
import java.lang.reflect.Modifier;
import java.util.ArrayList;
import java.util.HashMap;
import java.util.List;
import java.util.Map;

/**
 * All that an object holds, as a text, so that two moments of it can be compared: a call that throws
 * has changed nothing if both are alike, also where no later call would show it.
 */
final class Innards {
  private static final Map<Class<?>, List<Field>> FIELDS = new HashMap<>();

  private Innards() {}

  static String of(Object object) throws IllegalAccessException {
    StringBuilder text = new StringBuilder();
    tell(object, text);
    return text.toString();
  }

  private static void tell(Object value, StringBuilder text) throws IllegalAccessException {
    if (value == null || value instanceof Number || value instanceof Boolean) {
      text.append(value).append(' ');
    } else if (value.getClass().isArray()) {
      text.append("[ ");
      for (int i = 0; i < Array.getLength(value); i++) {
        tell(Array.get(value, i), text);
      }
      text.append("] ");
    } else {
      text.append("{ ");
      for (Field field : fieldsOf(value.getClass())) {
        tell(field.get(value), text);
      }
      text.append("} ");
    }
  }

  private static List<Field> fieldsOf(Class<?> type) {
    return FIELDS.computeIfAbsent(type, of -> {
      List<Field> fields = new ArrayList<>();
      for (Field field : of.getDeclaredFields()) {
        if (!Modifier.isStatic(field.getModifiers())) {
          field.setAccessible(true);
          fields.add(field);
        }
      }
      return fields;
    });
  }
}
