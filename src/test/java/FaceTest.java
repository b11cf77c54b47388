import java.lang.reflect.Constructor;
import java.lang.reflect.Field;
import java.lang.reflect.Method;
import java.lang.reflect.Modifier;
import java.util.ArrayList;
import java.util.Collections;
import java.util.List;

/** The public face is the document's, and no arguments in any state make a call throw. */
public final class FaceTest {
    private static final String[] FACE = {
        "int audit(long,int)", "boolean average(int,long,long)", "long claim(int,int,int,long)",
        "long counted(int,int,int)", "int drawn(int)", "boolean feed(int,int,long,int,int)",
        "int form(int)", "long left(int,int,int)", "boolean metals(int,long)", "boolean once()",
        "long open(int,int,int,int)", "boolean placed(int,int,long)", "int plant()",
        "boolean point(int,int)", "long rate(int,int,int)", "boolean share(int,int,long,long)",
        "int solve()", "int told(int)", "int twice(int)", "boolean unit(int)"};
    private static final int[] INTS = {Integer.MIN_VALUE, -1, 0, 1, 3, 4, 5, 9, 10, 255, 256, Integer.MAX_VALUE};
    private static final long[] LONGS = {Long.MIN_VALUE, -1, 0, 1, 10, 1000000000000L, Long.MAX_VALUE};

    private static final Due DUE = new Due();

    public static void main(String[] args) throws ReflectiveOperationException {
        DUE.about("the public face");
        methods();
        rest();
        DUE.about("no call throws");
        for (int state = 0; state < 4; state++) {
            for (Method method : RateChains.class.getDeclaredMethods()) {
                if (Modifier.isPublic(method.getModifiers())) {
                    callWithAll(method, state);
                }
            }
        }
        DUE.end();
    }

    private static void methods() {
        List<String> got = new ArrayList<>();
        for (Method method : RateChains.class.getDeclaredMethods()) {
            boolean isPublic = Modifier.isPublic(method.getModifiers());
            DUE.yes(method + " is public or private", isPublic || Modifier.isPrivate(method.getModifiers()));
            if (isPublic) {
                got.add(signature(method));
            }
        }
        Collections.sort(got);
        List<String> want = new ArrayList<>(List.of(FACE));
        Collections.sort(want);
        DUE.yes("methods " + got, got.equals(want));
    }

    private static String signature(Method method) {
        StringBuilder words = new StringBuilder();
        for (Class<?> type : method.getParameterTypes()) {
            words.append(words.length() == 0 ? "" : ",").append(type.getName());
        }
        return method.getReturnType().getName() + " " + method.getName() + "(" + words + ")";
    }

    private static void rest() {
        DUE.yes("public final", (RateChains.class.getModifiers() & (Modifier.PUBLIC | Modifier.FINAL))
                == (Modifier.PUBLIC | Modifier.FINAL));
        Constructor<?>[] made = RateChains.class.getDeclaredConstructors();
        DUE.yes("one public constructor of nothing", made.length == 1
                && Modifier.isPublic(made[0].getModifiers()) && made[0].getParameterCount() == 0);
        for (Field field : RateChains.class.getDeclaredFields()) {
            boolean isNone = field.getName().equals("NONE");
            int is = field.getModifiers();
            DUE.yes(field + " is as due", isNone
                    ? Modifier.isPublic(is) && Modifier.isStatic(is) && Modifier.isFinal(is)
                    : Modifier.isPrivate(is) && (Modifier.isFinal(is) || !Modifier.isStatic(is)));
        }
    }

    private static RateChains inState(int state) {
        RateChains x = new RateChains();
        for (int i = 0; state > 0 && i < 5; i++) {
            x.plant();
            x.share(i, (i + 1) % 5, 1, 1);
        }
        for (int i = 0; state > 1 && i < 60; i++) {
            x.feed(i % 5, i % 4, 1000000000L, i % 10, i % 3);
            x.unit("#13".charAt(i % 3));
        }
        if (state > 2) {
            x.share(2, 2, 1, 10);
            x.share(4, 0, 9, 10);
            x.solve();
        }
        return x;
    }

    private static void callWithAll(Method method, int state) throws ReflectiveOperationException {
        Class<?>[] types = method.getParameterTypes();
        int[] at = new int[types.length];
        RateChains x = inState(state);
        int calls = 0;
        boolean more = true;
        while (more) {
            // A new object now and then keeps each within its 512 calls.
            if (calls++ % 300 == 0) {
                x = inState(state);
            }
            call(x, method, types, at);
            more = next(types, at);
        }
    }

    private static boolean next(Class<?>[] types, int[] at) {
        for (int i = 0; i < at.length; i++) {
            at[i]++;
            if (at[i] < (types[i] == int.class ? INTS.length : LONGS.length)) {
                return true;
            }
            at[i] = 0;
        }
        return false;
    }

    private static void call(RateChains x, Method method, Class<?>[] types, int[] at)
            throws ReflectiveOperationException {
        Object[] values = new Object[types.length];
        for (int i = 0; i < values.length; i++) {
            if (types[i] == int.class) {
                values[i] = INTS[at[i]];
            } else {
                values[i] = LONGS[at[i]];
            }
        }
        try {
            method.invoke(x, values);
        } catch (java.lang.reflect.InvocationTargetException thrown) {
            DUE.yes(method.getName() + java.util.Arrays.toString(values) + " threw " + thrown.getCause(), false);
        }
    }
}
