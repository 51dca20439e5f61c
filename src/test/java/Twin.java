import java.lang.reflect.InvocationTargetException;
import java.lang.reflect.Method;
import java.nio.ByteBuffer;
import java.nio.IntBuffer;
import java.nio.charset.StandardCharsets;
import java.util.Arrays;
import java.util.NoSuchElementException;

/** A pool and a model of it, asked the same; an answer of the pool that is not the model's is told. */
final class Twin {
    private static final int MOST_CALLS = 512;

    private final Check check;
    private final String run;
    private final RightsPool pool = new RightsPool();
    private final Model model = new Model();
    private int calls;

    Twin(Check check, String run) {
        this.check = check;
        this.run = run;
    }

    int lands() {
        return model.count(1);
    }

    int players() {
        return model.count(2);
    }

    int sessions() {
        return model.count(3);
    }

    /** How often the pool may still be asked: what it answers later is free. */
    int callsLeft() {
        return MOST_CALLS - calls;
    }

    static int callsToTell(String text) {
        return (text.length() + 19) / 20 + 4;
    }

    /** What lies on the tape is read ahead of it: as a rule it is a fault, and all else stays. */
    void tell(String text) {
        if (model.count(9) > 0) {
            ask("text", model.count(9));
        }
        byte[] bytes = text.getBytes(StandardCharsets.ISO_8859_1);
        byte[] padded = Arrays.copyOf(bytes, (bytes.length + 19) / 20 * 20);
        Arrays.fill(padded, bytes.length, padded.length, (byte) 32);
        IntBuffer ints = ByteBuffer.wrap(padded).asIntBuffer();
        while (ints.hasRemaining()) {
            ask("feed", ints.get(), ints.get(), ints.get(), ints.get(), ints.get());
        }
        ask("text", bytes.length);
        ask("fault", 0);
        ask("fault", 1);
    }

    long ask(String call, Object... arguments) {
        if (callsLeft() <= 0) {
            throw new IllegalStateException("an object is asked more often than the document allows");
        }
        calls++;
        Class<?>[] types = new Class<?>[arguments.length];
        for (int k = 0; k < types.length; k++) {
            types[k] = arguments[k] instanceof Boolean ? boolean.class : int.class;
        }
        try {
            long want = answer(Model.class.getMethod(call, types), model, arguments);
            long got = answer(RightsPool.class.getMethod(call, types), pool, arguments);
            check.due(run + ", " + call + Arrays.toString(arguments), got, want);
            return want;
        } catch (ReflectiveOperationException e) {
            throw new IllegalStateException(e);
        }
    }

    private static long answer(Method method, Object object, Object[] arguments) throws ReflectiveOperationException {
        try {
            Object answer = method.invoke(object, arguments);
            return answer instanceof Boolean is ? (is ? 1 : 0) : (Integer) answer;
        } catch (InvocationTargetException e) {
            if (e.getCause().getClass() == IndexOutOfBoundsException.class) {
                return Check.OUTSIDE;
            }
            if (e.getCause().getClass() == NoSuchElementException.class) {
                return Check.NO_ELEMENT;
            }
            e.getCause().printStackTrace(System.out);
            return Long.MIN_VALUE + object.getClass().getName().length();
        }
    }
}
