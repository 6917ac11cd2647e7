import java.lang.reflect.InvocationTargetException;
import java.lang.reflect.Method;
import java.lang.reflect.Modifier;
import java.util.Arrays;

/**
 * Every call with every mix of edge numbers, in states one behind the other: nothing may be thrown,
 * also behind the 512th call, where the answers are free.
 */
public final class GlassHillNeverThrows {
    private static final int[] EDGES =
        {Integer.MIN_VALUE, -1, 0, 1, 4, 10, 31, 60, Integer.MAX_VALUE};
    private static final String[] TEXTS = {"", "a200,r000", "a899999999,r990,n999,l000,l550,n450"};

    private static int wrong = 0;

    public static void main(String[] args) throws Exception {
        for (String text : TEXTS) {
            for (Method call : GlassHill.class.getDeclaredMethods()) {
                if (Modifier.isPublic(call.getModifiers())) {
                    int[] arguments = new int[call.getParameterCount()];
                    mix(built(text), call, arguments, 0);
                }
            }
        }
        System.out.println(wrong == 0 ? "nothing is thrown" : wrong + " calls threw");
        if (wrong != 0) {
            System.exit(1);
        }
    }

    /** Sheet 0 has the text, 1 a full row of steps, 2 a row of no cells, 3 nothing. */
    private static GlassHill built(String text) {
        GlassHill x = new GlassHill();
        x.sheet(0, 0, text.length());
        for (int i = 0; i < text.length(); i++) {
            x.put(0, i, text.charAt(i));
        }
        x.hill(0, 0, 0, text.length());
        x.sheet(1, 1, 60);
        for (int i = 0; i < 60; i++) {
            x.put(1, i, i % 3 == 0 ? 5 : 0);
        }
        x.sheet(2, 2, 0);
        for (int k = 0; k < 8; k++) {
            x.reading(0, k);
        }
        return x;
    }

    private static void mix(GlassHill x, Method call, int[] arguments, int from) throws Exception {
        if (from < arguments.length) {
            for (int edge : EDGES) {
                arguments[from] = edge;
                mix(x, call, arguments, from + 1);
            }
            return;
        }
        try {
            call.invoke(x, Arrays.stream(arguments).boxed().toArray());
        } catch (InvocationTargetException thrown) {
            wrong++;
            if (wrong < 20) {
                System.out.println(call.getName() + Arrays.toString(arguments) + " threw " + thrown.getCause());
            }
        }
    }
}
