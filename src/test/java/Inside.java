import java.lang.reflect.Array;
import java.lang.reflect.Field;
import java.lang.reflect.Modifier;
import java.util.IdentityHashMap;
import java.util.Map;

/** All that stands in the fields of a park, as one text: what cannot be asked for too, such as returns and locks. */
final class Inside {
    private final StringBuilder text = new StringBuilder();
    private final Map<Object, Integer> met = new IdentityHashMap<>();

    private Inside() {
    }

    static String of(Coasterland park) {
        Inside inside = new Inside();
        inside.add(park);
        return inside.text.toString();
    }

    private void add(Object value) {
        if (value == null || value instanceof Number || value instanceof Character || value instanceof Boolean) {
            text.append(value).append(' ');
        } else if (met.containsKey(value)) {
            text.append('#').append(met.get(value)).append(' ');
        } else {
            met.put(value, met.size());
            text.append('(');
            addParts(value);
            text.append(") ");
        }
    }

    private void addParts(Object value) {
        if (value.getClass().isArray()) {
            for (int i = 0; i < Array.getLength(value); i++) {
                add(Array.get(value, i));
            }
            return;
        }
        for (Field field : value.getClass().getDeclaredFields()) {
            if (!Modifier.isStatic(field.getModifiers())) {
                field.setAccessible(true);
                add(read(field, value));
            }
        }
    }

    private static Object read(Field field, Object owner) {
        try {
            return field.get(owner);
        } catch (IllegalAccessException e) {
            throw new IllegalStateException(e);
        }
    }
}
