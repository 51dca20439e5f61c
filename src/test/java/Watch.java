import java.lang.reflect.InvocationTargetException;

/** Runs a test's main method; it ends with exit code 1 if that throws, with 3 if it does not end by itself. */
public final class Watch {
    private static final long MOST_MILLIS = 120000;

    private Watch() {
    }

    public static void main(String[] args) throws ReflectiveOperationException {
        Thread watch = new Thread(() -> endIfLate(args[0]));
        watch.setDaemon(true);
        watch.start();
        try {
            Class.forName(args[0]).getMethod("main", String[].class).invoke(null, (Object) new String[0]);
        } catch (InvocationTargetException e) {
            e.getCause().printStackTrace();
            System.exit(1);
        }
    }

    private static void endIfLate(String test) {
        try {
            Thread.sleep(MOST_MILLIS);
        } catch (InterruptedException e) {
            return;
        }
        System.out.println(test + " does not end");
        Runtime.getRuntime().halt(3);
    }
}
