import java.lang.reflect.Constructor;
import java.lang.reflect.InvocationTargetException;
import java.lang.reflect.Method;

/**
 * LANGUAGE.md, rule 7: an index is looked at before it is used. No call of the face brings a wrong
 * place into a level, so the levels are asked here themselves.
 */
final class GuardsTest {
    private static final int[] PLACES = {
        Integer.MIN_VALUE, -1025, -64, -1, 0, 999, 1000, 1001, 1023, 1024, 1025, Integer.MAX_VALUE
    };

    public static void main(String[] args) throws ReflectiveOperationException {
        Class<?> level = Class.forName("LevelRows$Level");
        for (int place : PLACES) {
            askForPlace(level, place);
        }
        Check.end();
    }

    private static void askForPlace(Class<?> level, int place) throws ReflectiveOperationException {
        Class<?> number = int.class;
        // With a zero everywhere, as many zeros as places stand before a place, and no ones.
        Method bitAt = level.getDeclaredMethod("bitAt", number);
        Check.said("bitAt " + place, "0", answer(level, bitAt, place));
        Method onesTo = level.getDeclaredMethod("onesTo", number);
        Check.said("onesTo " + place, "0", answer(level, onesTo, place));
        Method zerosTo = level.getDeclaredMethod("zerosTo", number);
        Check.said("zerosTo " + place, Integer.toString(place), answer(level, zerosTo, place));
        Method placeBelow = level.getDeclaredMethod("placeBelow", number, number);
        Check.said("placeBelow 0, " + place, Integer.toString(place),
                answer(level, placeBelow, 0, place));
        Check.said("placeBelow 1, " + place, "0", answer(level, placeBelow, 1, place));
        Method placeAbove = level.getDeclaredMethod("placeAbove", number, number);
        String above = answer(level, placeAbove, place, Integer.MAX_VALUE);
        Check.said("placeAbove " + place + " throws nothing", "true",
                Boolean.toString(above.matches("-?[0-9]+")));
    }

    /** The answer of a new level, or the name of what it throws. */
    private static String answer(Class<?> level, Method method, Object... given)
            throws ReflectiveOperationException {
        Constructor<?> maker = level.getDeclaredConstructor();
        maker.setAccessible(true);
        method.setAccessible(true);
        try {
            return method.invoke(maker.newInstance(), given).toString();
        } catch (InvocationTargetException thrown) {
            return thrown.getCause().getClass().getName();
        }
    }
}
