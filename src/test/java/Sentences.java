import java.io.IOException;
import java.util.function.Supplier;

/**
 * Tests, each under the sentence of the document that it holds: section, words of the sentence, and what the test is
 * called stand ahead of every answer that is not due.
 */
final class Sentences {
    static final Class<IndexOutOfBoundsException> INDEX = IndexOutOfBoundsException.class;
    static final Class<IllegalArgumentException> ARGUMENT = IllegalArgumentException.class;
    static final Class<IllegalStateException> STATE = IllegalStateException.class;

    interface HouseCall {
        long on(House house);
    }

    interface NumberCall {
        long on(House house, int number);
    }

    interface Body {
        void run();
    }

    private final Due due;
    private final Document document = new Document();
    private String section = "";
    private String sentence = "";
    private String test = "";
    private int tests = 0;
    private int checks = 0;

    Sentences(String title) throws IOException {
        due = new Due(title);
    }

    void section(String name) {
        section = name;
    }

    /** The tests from here on hold the sentence of the section that has these words. */
    void says(String words) {
        sentence = words;
        test = "the words";
        due.equal(place(), true, document.says(section, words));
    }

    void test(String name, Body body) {
        test = name;
        tests++;
        checks = 0;
        document.hold(section, sentence);
        try {
            body.run();
        } catch (RuntimeException | AssertionError broken) {
            due.equal(place(), "an end", broken.toString());
        }
        due.equal(place() + ", whether anything was looked at", true, checks > 0);
    }

    private String place() {
        return section + ", \"" + sentence + "\": " + test;
    }

    void is(long want, long got) {
        checks++;
        due.equal(place() + ", answer " + checks, want, got);
    }

    void is(boolean want, boolean got) {
        checks++;
        due.equal(place() + ", answer " + checks, want, got);
    }

    void same(String want, String got) {
        checks++;
        due.equal(place() + ", answer " + checks, want, got);
    }

    /** What is in the accounts of a person, from victims to canteen. */
    void accounts(House house, int person, int... want) {
        for (int account = 0; account < want.length; account++) {
            is(want[account], house.account(person, account));
        }
    }

    /** The call throws an exception of exactly this class, and nothing that a later call could tell is changed. */
    void refuses(Class<? extends RuntimeException> want, House house, HouseCall call) {
        String before = Probe.of(house);
        String outcome = Due.outcome(() -> call.on(house));
        same("throws." + want.getSimpleName(), outcome);
        same(before, Probe.of(house));
    }

    void allows(House house, HouseCall call) {
        same("an answer", Due.outcome(() -> call.on(house)).replaceFirst("^-?\\d+$", "an answer"));
    }

    /** A test each for the next number below the range, the next one above it, and the least and the greatest int. */
    void outside(String what, int least, int most, Class<? extends RuntimeException> want, Supplier<House> house,
            NumberCall call) {
        int[] numbers = {least - 1, most + 1, Integer.MIN_VALUE, Integer.MAX_VALUE};
        for (int number : numbers) {
            test(what + " " + number, () -> refuses(want, house.get(), x -> call.on(x, number)));
        }
    }

    /** The call's number is that of a person, for whom it is possible or not. */
    void noSuchPerson(NumberCall call) {
        outside("of two people, person", 0, 1, INDEX, () -> Houses.working(2, 50, 100), call);
        outside("of ten people, person", 0, 9, INDEX, () -> Houses.working(10, 50, 100), call);
        test("of no people, person 0", () -> refuses(INDEX, new House(), x -> call.on(x, 0)));
    }

    /** Fails for each sentence of the document that no test stands under, and ends the program. */
    void end() {
        for (String missing : document.notHeld("What it is|Terms|Promise \\d+")) {
            due.equal("a test for " + missing, "there", "missing");
        }
        System.out.println(tests + " tests stand under sentences of the document");
        due.end();
    }
}
