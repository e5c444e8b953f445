import java.util.Map;
import java.util.Random;
import java.util.TreeMap;

/** Many runs of calls, always the same ones, on a house and on its plain model: the answers are the same. */
public final class ModelTest {
    private static final int RUNS = 6000;
    private static final int MOST_CALLS = 350;

    private static final String[] NAMES = {"admit", "course", "offence", "appeal", "release", "isIn", "regime",
        "papers", "setTools", "toolsOut", "addOrder", "assign", "takeOff", "orderOf", "left", "account", "buy",
        "limit", "paidOut", "pass"};

    /** Which outcomes each call promises: a for an answer, x for the index, r for the argument, s for the state. */
    private static final String[] OUTCOMES = {"ars", "axrs", "axrs", "axs", "ax", "ax", "ax", "ax", "axrs", "ax",
        "axrs", "axs", "axs", "ax", "ax", "ax", "axrs", "ax", "ax", "ar"};

    private static final Due due = new Due("ModelTest");
    private static final Map<String, Integer> seen = new TreeMap<>();

    private final Random random;
    private final House house = new House();
    private final PlainHouse plain = new PlainHouse();
    private final int[] weights = new int[NAMES.length];
    private final int wrongOf100;
    private final int longestTerm;
    private final int mostPassed;
    private final int mostPeople;
    private int people = 0;
    private int orders = 0;

    private ModelTest(int seed) {
        random = new Random(seed);
        for (int op = 0; op < weights.length; op++) {
            weights[op] = 1 + random.nextInt(random.nextInt(4) == 0 ? 40 : 8);
        }
        wrongOf100 = new int[] {0, 2, 5, 20}[random.nextInt(4)];
        longestTerm = new int[] {8, 40, 300, 2000}[random.nextInt(4)];
        mostPassed = new int[] {1, 2, 6, 30, 100}[random.nextInt(5)];
        mostPeople = new int[] {1, 2, 4, 10}[random.nextInt(4)];
    }

    public static void main(String[] args) {
        for (int seed = 0; seed < RUNS; seed++) {
            new ModelTest(seed).run(seed);
        }
        for (int op = 0; op < NAMES.length; op++) {
            for (char outcome : OUTCOMES[op].toCharArray()) {
                String what = NAMES[op] + " " + outcome;
                due.equal("runs have " + what, true, seen.getOrDefault(what, 0) >= 100);
            }
        }
        due.end();
    }

    private void run(int seed) {
        int calls = 1 + random.nextInt(MOST_CALLS);
        StringBuilder story = new StringBuilder("run " + seed);
        for (int call = 0; call < calls; call++) {
            int op = nextOp();
            int[] a = arguments(op);
            story.append(", ").append(NAMES[op]);
            for (int argument : a) {
                story.append(' ').append(argument);
            }
            String want = Due.outcome(() -> make(plain, op, a));
            String got = Due.outcome(() -> make(house, op, a));
            due.equal(want.equals(got) ? "" : story.toString(), want, got);
            count(op, a, want);
        }
        due.equal("all that can be asked after " + story, Picture.of(plain), Picture.of(house));
    }

    private void count(int op, int[] a, String outcome) {
        String kind = switch (outcome) {
            case "throws.IndexOutOfBoundsException" -> "x";
            case "throws.IllegalArgumentException" -> "r";
            case "throws.IllegalStateException" -> "s";
            default -> "a";
        };
        seen.merge(NAMES[op] + " " + kind, 1, Integer::sum);
        if (kind.equals("a")) {
            people += op == 0 ? 1 : 0;
            orders += op == 10 ? 1 : 0;
        }
    }

    private int nextOp() {
        int sum = 0;
        for (int weight : weights) {
            sum += weight;
        }
        int at = random.nextInt(sum);
        int op = 0;
        while (at >= weights[op]) {
            at -= weights[op];
            op++;
        }
        return op == 0 && people >= mostPeople && random.nextInt(10) != 0 ? 19 : op;
    }

    private int[] arguments(int op) {
        int person = pick(0, people - 1);
        return switch (op) {
            case 0 -> new int[] {pick(1, longestTerm == 2000 ? 2000 : longestTerm), pick(0, 15)};
            case 1 -> new int[] {person, pick(0, 3), days()};
            case 2 -> new int[] {person, days()};
            case 3 -> new int[] {person, pick(0, random.nextInt(4) == 0 ? 49 : random.nextInt(6))};
            case 7 -> new int[] {person, random.nextInt(2)};
            case 8 -> new int[] {pick(0, 2), pick(0, random.nextBoolean() ? 20 : 3)};
            case 9 -> new int[] {pick(0, 2)};
            case 10 -> new int[] {pick(0, 3), pick(0, 2), pick(1, random.nextBoolean() ? 500 : 12), pick(0, 1000)};
            case 11 -> new int[] {person, pick(0, orders - 1)};
            case 14 -> new int[] {pick(0, orders - 1)};
            case 15 -> new int[] {person, pick(0, 3)};
            case 16 -> new int[] {person, pick(1, random.nextInt(8) == 0 ? 1000 : 30)};
            case 19 -> new int[] {pick(1, mostPassed)};
            default -> new int[] {person};
        };
    }

    private int days() {
        return pick(0, random.nextBoolean() ? 100 : 3);
    }

    /** A number in the range, often at its edges, and now and then one out of it. */
    private int pick(int least, int most) {
        if (most < least || random.nextInt(100) < wrongOf100) {
            int[] wrong = {least - 1, most + 1, -1, 101, 2001, 1001, 501, 16, Integer.MIN_VALUE, Integer.MAX_VALUE};
            return wrong[random.nextInt(random.nextBoolean() ? 2 : wrong.length)];
        }
        return switch (random.nextInt(8)) {
            case 0 -> least;
            case 1 -> most;
            default -> least + random.nextInt(most - least + 1);
        };
    }

    private static long make(Face x, int op, int[] a) {
        return switch (op) {
            case 0 -> x.admit(a[0], a[1]);
            case 1 -> x.course(a[0], a[1], a[2]);
            case 2 -> x.offence(a[0], a[1]);
            case 3 -> x.appeal(a[0], a[1]);
            case 4 -> x.release(a[0]);
            case 5 -> x.isIn(a[0]) ? 1 : 0;
            case 6 -> x.regime(a[0]);
            case 7 -> x.papers(a[0], a[1] == 1);
            case 8 -> x.setTools(a[0], a[1]);
            case 9 -> x.toolsOut(a[0]);
            case 10 -> x.addOrder(a[0], a[1], a[2], a[3]);
            case 11 -> x.assign(a[0], a[1]);
            case 12 -> x.takeOff(a[0]);
            case 13 -> x.orderOf(a[0]);
            case 14 -> x.left(a[0]);
            case 15 -> x.account(a[0], a[1]);
            case 16 -> x.buy(a[0], a[1]);
            case 17 -> x.limit(a[0]);
            case 18 -> x.paidOut(a[0]);
            default -> x.pass(a[0]);
        };
    }
}
