import java.lang.reflect.Array;
import java.lang.reflect.Field;
import java.lang.reflect.Modifier;
import java.util.ArrayList;
import java.util.IdentityHashMap;
import java.util.List;
import java.util.Map;

/**
 * All that an object holds, also what no answer tells of (what is shown, the bounds, the factors of an event), as a
 * text: calls that throw, and calls that only ask, must leave it as it was.
 */
final class Inside {
    private final StringBuilder text = new StringBuilder();
    private final Map<Object, Integer> seen = new IdentityHashMap<>();

    private Inside() {
    }

    static String of(EvenstartGames games) {
        Inside inside = new Inside();
        try {
            inside.addFields(games);
        } catch (IllegalAccessException e) {
            throw new IllegalStateException(e);
        }
        return inside.text.toString();
    }

    private void addFields(Object object) throws IllegalAccessException {
        for (Field field : object.getClass().getDeclaredFields()) {
            if (!Modifier.isStatic(field.getModifiers())) {
                field.setAccessible(true);
                text.append(field.getName()).append(' ');
                add(field.getType().isPrimitive(), field.get(object));
            }
        }
    }

    private void add(boolean isPrimitive, Object value) throws IllegalAccessException {
        if (isPrimitive || value == null || value instanceof String || value instanceof Integer) {
            text.append(value).append('\n');
        } else if (seen.containsKey(value)) {
            text.append("as ").append(seen.get(value)).append('\n');
        } else {
            text.append("is ").append(seen.size()).append('\n');
            seen.put(value, seen.size());
            addParts(value);
        }
    }

    private void addParts(Object value) throws IllegalAccessException {
        if (value instanceof List<?>) {
            for (Object part : new ArrayList<Object>((List<?>) value)) {
                add(false, part);
            }
        } else if (value.getClass().isArray()) {
            for (int i = 0; i < Array.getLength(value); i++) {
                add(value.getClass().getComponentType().isPrimitive(), Array.get(value, i));
            }
        } else {
            addFields(value);
        }
    }
}
