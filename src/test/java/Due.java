/** Counts answers that are due, and prints each that is not. */
final class Due {
    interface Call {
        long make();
    }

    private final String title;
    private int right = 0;
    private int wrong = 0;

    Due(String title) {
        this.title = title;
    }

    void answers(String call, long want, Call made) {
        equal(call, Long.toString(want), outcome(made));
    }

    void equal(String what, Object want, Object got) {
        if (want.equals(got)) {
            right++;
        } else {
            wrong++;
            System.out.println(title + ": " + what + " answered " + got + ", due is " + want);
        }
    }

    /** The call throws an exception of exactly this class and changes nothing that can be asked for. */
    void refuses(String call, Class<? extends RuntimeException> want, House house, Call made) {
        String before = Picture.of(house.twin());
        equal(call, "throws." + want.getSimpleName(), outcome(made));
        equal(call + ", what it left", before, Picture.of(house.twin()));
    }

    static String outcome(Call made) {
        try {
            return Long.toString(made.make());
        } catch (RuntimeException thrown) {
            return "throws." + thrown.getClass().getSimpleName();
        }
    }

    void end() {
        System.out.println(title + ": " + right + " passed, " + wrong + " failed");
        if (wrong != 0 || right == 0) {
            System.exit(1);
        }
    }
}
