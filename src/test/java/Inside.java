import java.lang.reflect.Array;
import java.lang.reflect.Field;
import java.lang.reflect.Modifier;
import java.util.ArrayList;
import java.util.HashMap;
import java.util.List;
import java.util.Map;

/** All that an object holds inside, as a text: what a refused call would have changed shows there, even unseen. */
final class Inside {
    private static final Map<Class<?>, List<Field>> FIELDS = new HashMap<>();

    private Inside() {
    }

    static String of(Object it) {
        StringBuilder text = new StringBuilder();
        try {
            tell(it, text);
        } catch (IllegalAccessException e) {
            throw new AssertionError(e);
        }
        return text.toString();
    }

    private static void tell(Object it, StringBuilder text) throws IllegalAccessException {
        if (it == null || it instanceof Number || it instanceof Boolean || it instanceof Character) {
            text.append(it).append(' ');
        } else if (it instanceof int[]) {
            for (int number : (int[]) it) {
                text.append(number).append(' ');
            }
        } else if (it.getClass().isArray()) {
            for (int i = 0; i < Array.getLength(it); i++) {
                tell(Array.get(it, i), text);
            }
        } else {
            for (Field field : fieldsOf(it.getClass())) {
                tell(field.get(it), text);
            }
        }
    }

    private static List<Field> fieldsOf(Class<?> kind) {
        List<Field> fields = FIELDS.get(kind);
        if (fields == null) {
            fields = new ArrayList<>();
            for (Field field : kind.getDeclaredFields()) {
                if (!Modifier.isStatic(field.getModifiers())) {
                    field.setAccessible(true);
                    fields.add(field);
                }
            }
            FIELDS.put(kind, fields);
        }
        return fields;
    }
}
