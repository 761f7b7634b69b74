import java.lang.reflect.InvocationTargetException;
import java.util.Arrays;

/** Runs a test's main method, and ends it as failed if a call of it doesn't end. */
public final class Watched {
    private static final long MOST_MILLIS = 300_000;

    public static void main(String[] args) throws ReflectiveOperationException {
        Thread watch = new Thread(() -> endLate(args[0]));
        watch.setDaemon(true);
        watch.start();
        try {
            Class.forName(args[0]).getMethod("main", String[].class)
                .invoke(null, (Object) Arrays.copyOfRange(args, 1, args.length));
        } catch (InvocationTargetException e) {
            System.out.println(args[0] + " threw " + e.getCause());
            System.exit(1);
        }
    }

    private static void endLate(String name) {
        try {
            Thread.sleep(MOST_MILLIS);
        } catch (InterruptedException e) {
            return;
        }
        System.out.println(name + " has not ended behind " + MOST_MILLIS / 1000 + " seconds");
        Runtime.getRuntime().halt(1);
    }
}
