import java.lang.reflect.InvocationTargetException;
import java.lang.reflect.Method;
import java.lang.reflect.Modifier;

/** No call ever throws, whatever its arguments are and however the room is. */
public final class WildArgumentsTest {
    private static final int[] WILD = {Integer.MIN_VALUE, Integer.MIN_VALUE + 1, -10001, -100, -7,
        -2, -1, 0, 1, 2, 3, 5, 6, 7, 8, 9, 10, 17, 31, 32, 40, 59, 60, 63, 64, 99, 100, 127, 255,
        10000, Integer.MAX_VALUE - 1, Integer.MAX_VALUE};
    private static final int[] FEWER = {Integer.MIN_VALUE, -1, 0, 1, 2, 3, 6, 30, 60,
        Integer.MAX_VALUE};
    private static final int[] FEWEST = {Integer.MIN_VALUE, -1, 0, 2, 60, Integer.MAX_VALUE};
    private static final Room.Plan[] ROOMS = {Room::empty, Room::some, Room::full, Room::fullText,
        Room::lastDay, () -> Room.of(0, 0, 8), () -> Room.of(6, 6, 0), () -> Room.of(1, 5, 1)};
    // An object is used for at most 512 calls, and the dearest room takes some 170 of them.
    private static final int CALLS = 300;

    public static void main(String[] args) throws IllegalAccessException {
        int methods = 0;
        for (Method m : ToldMeThat.class.getDeclaredMethods()) {
            if (Modifier.isPublic(m.getModifiers())) {
                methods++;
                for (int room = 0; room < ROOMS.length; room++) {
                    callByAll(m, room);
                }
            }
        }
        Check.due("methods", methods, 40);
        Check.end("WildArgumentsTest");
    }

    private static void callByAll(Method m, int room) throws IllegalAccessException {
        Class<?>[] types = m.getParameterTypes();
        int[] values = types.length < 3 ? WILD : types.length < 5 ? FEWER : FEWEST;
        int all = 1;
        for (int i = 0; i < types.length; i++) {
            all *= values.length;
        }
        ToldMeThat x = null;
        for (int one = 0; one < all; one++) {
            if (one % CALLS == 0) {
                x = ROOMS[room].build();
            }
            Object[] args = new Object[types.length];
            int rest = one;
            for (int i = 0; i < types.length; i++) {
                int v = values[rest % values.length];
                rest /= values.length;
                args[i] = types[i] == long.class ? (Object) (v * 4294967297L) : (Object) v;
            }
            try {
                m.invoke(x, args);
                Check.due(m.getName(), 0, 0);
            } catch (InvocationTargetException e) {
                Check.due("room " + room + ": " + m.getName() + java.util.Arrays.toString(args)
                    + " threw " + e.getCause(), 1, 0);
                x = ROOMS[room].build();
            }
        }
    }
}
