import java.lang.reflect.Array;
import java.lang.reflect.Field;
import java.lang.reflect.Modifier;

/** Every field of a chip, those that no call shows too: to see that a call has changed nothing at all. */
final class Insides {
    private final StringBuilder told = new StringBuilder();

    private Insides() {
    }

    static String of(StageChip chip) {
        Insides insides = new Insides();
        try {
            insides.tell(chip);
        } catch (IllegalAccessException e) {
            throw new IllegalStateException(e);
        }
        return insides.told.toString();
    }

    private void tell(Object x) throws IllegalAccessException {
        if (x.getClass().isArray()) {
            tellElements(x);
        } else if (x instanceof Number || x instanceof Boolean) {
            told.append(x).append(' ');
        } else {
            tellFields(x);
        }
    }

    private void tellElements(Object row) throws IllegalAccessException {
        told.append("( ");
        for (int i = 0; i < Array.getLength(row); i++) {
            tell(Array.get(row, i));
        }
        told.append(") ");
    }

    private void tellFields(Object x) throws IllegalAccessException {
        for (Field field : x.getClass().getDeclaredFields()) {
            if (!Modifier.isStatic(field.getModifiers())) {
                field.setAccessible(true);
                told.append(field.getName()).append(' ');
                tell(field.get(x));
            }
        }
    }
}
