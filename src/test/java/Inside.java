import java.lang.reflect.Field;
import java.util.List;

/**
 * Reaches into an object, for what no run of calls brings about: a log that has lost what was done,
 * an answer told that was none.
 */
final class Inside {
    private Inside() { }

    private static Field field(Object of, String name) {
        try {
            Field found = of.getClass().getDeclaredField(name);
            found.setAccessible(true);
            return found;
        } catch (NoSuchFieldException e) {
            throw new IllegalStateException(e);
        }
    }

    static Object get(Object of, String name) {
        try {
            return field(of, name).get(of);
        } catch (IllegalAccessException e) {
            throw new IllegalStateException(e);
        }
    }

    static void set(Object of, String name, int value) {
        try {
            field(of, name).setInt(of, value);
        } catch (IllegalAccessException e) {
            throw new IllegalStateException(e);
        }
    }

    @SuppressWarnings("unchecked")
    private static List<Object> list(Object of, String name) {
        return (List<Object>) get(of, name);
    }

    static Object master(OneTrip trip, int epoch) {
        return list(trip, "masters").get(epoch);
    }

    /** The log of an epoch's master; what is taken out or put in is so for the object. */
    static List<Object> log(OneTrip trip, int epoch) {
        return list(master(trip, epoch), "log");
    }

    /** Get i of those that wait at an epoch's master, as they came. */
    static Object waitingGet(OneTrip trip, int epoch, int i) {
        return list(master(trip, epoch), "gets").get(i);
    }

    /** Operation i of all that were asked for, from 0 on. */
    static Object operation(OneTrip trip, int i) {
        return list(trip, "operations").get(i);
    }
}
