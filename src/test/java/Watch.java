/** Runs the main method of a test, and lets it fail if it does not come to an end. */
public final class Watch {
    private static final long LONGEST_MILLIS = 300_000;

    private Watch() {
    }

    public static void main(String[] args) throws ReflectiveOperationException {
        Thread watch = new Thread(() -> giveUp(args[0]));
        watch.setDaemon(true);
        watch.start();
        Class.forName(args[0]).getMethod("main", String[].class).invoke(null, (Object) new String[0]);
    }

    private static void giveUp(String test) {
        try {
            Thread.sleep(LONGEST_MILLIS);
        } catch (InterruptedException ended) {
            return;
        }
        System.out.println(test + " does not come to an end");
        Runtime.getRuntime().halt(1);
    }
}
