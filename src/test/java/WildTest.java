import java.lang.reflect.InvocationTargetException;
import java.lang.reflect.Method;
import java.lang.reflect.Modifier;
import java.util.ArrayList;
import java.util.Comparator;
import java.util.List;

/** Calls of the face with any arguments at all: none throws but letter, and that only NoSuchElementException. */
public final class WildTest {
    private static final int[] ODD = {Integer.MIN_VALUE, Integer.MIN_VALUE + 1, -65537, -1, 0, 1, 2, 3, 8, 9, 60, 200, 400, 1440, 65536 + 't',
        99_999_999, 100_000_000, Integer.MAX_VALUE - 1, Integer.MAX_VALUE, 0x3F3D2831, 0x5B2D743F, 0x313D313F, 0x67000000};
    private static long lot = 7;

    public static void main(String[] args) throws Exception {
        List<Method> face = new ArrayList<>();
        for (Method method : PostVotes.class.getDeclaredMethods()) {
            if (Modifier.isPublic(method.getModifiers())) {
                face.add(method);
            }
        }
        face.sort(Comparator.comparing(Method::getName));
        Due.is("calls of the face", face.size(), 43);
        for (int run = 0; run < 300; run++) {
            PostVotes x = new PostVotes();
            for (int call = 0; call < 512; call++) {
                callWildly(x, face.get(upTo(face.size())), run % 3);
            }
        }
        Due.end("WildTest");
    }

    private static int upTo(int n) {
        lot = lot * 2862933555777941757L + 3037000493L;
        return (int) ((lot >>> 33) % n);
    }

    private static int number(int wildness) {
        return upTo(6) < wildness ? ODD[upTo(ODD.length)] : upTo(4) == 0 ? upTo(10) : upTo(3);
    }

    private static void callWildly(PostVotes x, Method method, int wildness) throws Exception {
        Object[] values = new Object[method.getParameterCount()];
        for (int i = 0; i < values.length; i++) {
            Class<?> kind = method.getParameterTypes()[i];
            int n = number(wildness);
            values[i] = kind == boolean.class ? (Object) (n % 2 == 0) : kind == long.class ? (Object) (lot * n) : (Object) n;
        }
        boolean right = true;
        try {
            method.invoke(x, values);
        } catch (InvocationTargetException thrown) {
            right = method.getName().equals("letter") && thrown.getCause().getClass() == java.util.NoSuchElementException.class;
        }
        Due.yes(method.getName() + java.util.Arrays.toString(values), right);
    }
}
