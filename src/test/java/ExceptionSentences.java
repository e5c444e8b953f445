import java.util.ArrayList;
import java.util.List;
import java.util.function.Supplier;

/** The terms' paragraph on the exceptions and their order. */
final class ExceptionSentences {
    private interface ArgumentsCall {
        long on(House house, int[] arguments);
    }

    /** An argument that names something that exists or not, or another one, with its range. */
    private record Argument(boolean names, int least, int most) {
        int[] edges() {
            return new int[] {Integer.MIN_VALUE, least - 1, least, most, most + 1, Integer.MAX_VALUE};
        }

        boolean has(int number) {
            return least <= number && number <= most;
        }
    }

    private final Sentences s;

    ExceptionSentences(Sentences sentences) {
        s = sentences;
    }

    void all() {
        s.section("Terms");
        doesNotExist();
        severalApply();
        changesNothing();
    }

    private static Argument name(int most) {
        return new Argument(true, 0, most);
    }

    private static Argument number(int least, int most) {
        return new Argument(false, least, most);
    }

    private void doesNotExist() {
        s.says("IndexOutOfBoundsException is thrown for a person, order, offence, skill, kind of tool or account that "
            + "does not exist, IllegalArgumentException for another argument out of range, and IllegalStateException "
            + "if a call is not possible now.");
        Supplier<House> working = () -> Houses.working(2, 50, 1);
        s.outside("a person:", 0, 1, Sentences.INDEX, working, (x, person) -> x.offence(person, 1));
        s.outside("an order:", 0, 0, Sentences.INDEX, working, House::left);
        s.outside("an offence:", 0, 2, Sentences.INDEX, () -> Houses.papers(3, 1), (x, o) -> x.appeal(0, o));
        s.outside("a skill:", 0, 3, Sentences.INDEX, working, (x, skill) -> x.course(0, skill, 1));
        s.outside("a kind of tool:", 0, 2, Sentences.INDEX, working, House::toolsOut);
        s.outside("an account:", 0, 3, Sentences.INDEX, working, (x, account) -> x.account(0, account));
        s.outside("another argument:", 1, 100, Sentences.ARGUMENT, working, House::pass);
        s.test("not possible now", () -> s.refuses(Sentences.STATE, working.get(), x -> x.assign(0, 0)));
    }

    private void severalApply() {
        s.says("If several apply, IndexOutOfBoundsException goes first, then IllegalArgumentException.");
        everyEdge("admit to a full house", () -> Houses.people(10), false, (x, a) -> x.admit(a[0], a[1]),
            number(1, 2000), number(0, 15));
        ArgumentsCall course = (x, a) -> x.course(a[0], a[1], a[2]);
        everyEdge("course", () -> Houses.unskilled(2), true, course, name(1), name(3), number(0, 100));
        everyEdge("course of the released", this::twoReleased, false, course, name(1), name(3), number(0, 100));
        everyEdge("course with 50 papers", () -> Houses.papers(25, 25), false, course, name(0), name(3),
            number(0, 100));
        ArgumentsCall offence = (x, a) -> x.offence(a[0], a[1]);
        everyEdge("offence", () -> Houses.working(2, 5, 1), true, offence, name(1), number(0, 100));
        everyEdge("offence of the released", this::twoReleased, false, offence, name(1), number(0, 100));
        everyEdge("offence with 50 papers", () -> Houses.papers(25, 25), false, offence, name(0), number(0, 100));
        ArgumentsCall appeal = (x, a) -> x.appeal(a[0], a[1]);
        everyEdge("appeal", () -> Houses.papers(3, 0), true, appeal, name(0), name(2));
        everyEdge("appeal for the released", this::twoReleased, false, appeal, name(1), name(1));
        ArgumentsCall setTools = (x, a) -> x.setTools(a[0], a[1]);
        everyEdge("setTools", House::new, true, setTools, name(2), number(0, 20));
        theWorkshop();
        theBank();
    }

    private void theWorkshop() {
        s.test("a count below 0 and below what is counted out",
            () -> s.refuses(Sentences.ARGUMENT, Houses.working(1, 5, 1), x -> x.setTools(0, -1)));
        s.test("no such kind, a count below 0",
            () -> s.refuses(Sentences.INDEX, Houses.working(1, 5, 1), x -> x.setTools(3, -1)));
        ArgumentsCall addOrder = (x, a) -> x.addOrder(a[0], a[1], a[2], a[3]);
        everyEdge("addOrder", House::new, true, addOrder, name(3), name(2), number(1, 500), number(0, 1000));
        everyEdge("addOrder to 8 orders", () -> Houses.orders(8), false, addOrder, name(3), name(2), number(1, 500),
            number(0, 1000));
        ArgumentsCall assign = (x, a) -> x.assign(a[0], a[1]);
        everyEdge("assign", () -> Houses.shop(2, 5, 1), true, assign, name(1), name(0));
        everyEdge("assign of those on an order", () -> Houses.working(2, 5, 1), false, assign, name(1), name(0));
        everyEdge("assign of the released", this::twoReleased, false, assign, name(1), name(0));
        everyEdge("assign without tools", () -> Houses.orders(8), false, assign, name(0), name(7));
        everyEdge("takeOff of those on none", () -> Houses.shop(2, 5, 1), false, (x, a) -> x.takeOff(a[0]), name(1));
    }

    private void theBank() {
        everyEdge("account", Houses::earned, true, (x, a) -> x.account(a[0], a[1]), name(0), name(3));
        ArgumentsCall buy = (x, a) -> x.buy(a[0], a[1]);
        everyEdge("buy with an empty account", () -> Houses.people(2), false, buy, name(1), number(1, 1000));
        everyEdge("buy of the released", this::twoReleased, false, buy, name(1), number(1, 1000));
        everyEdge("buy over the limit", () -> {
            House x = Houses.earned();
            x.buy(0, 30);
            return x;
        }, false, buy, name(0), number(1, 1000));
    }

    /** Two people who are released with money and two appealed offences each, and an order of skill 0. */
    private House twoReleased() {
        House x = Houses.shop(0, 50, 1000);
        for (int person = 0; person < 2; person++) {
            x.admit(1, 15);
            x.offence(person, 0);
            x.offence(person, 0);
            x.appeal(person, 0);
            x.appeal(person, 1);
            x.assign(person, 0);
        }
        x.pass(1);
        return x;
    }

    /** Each argument at its edges and beyond them, in every combination, and each time on a house of its own. */
    private void everyEdge(String what, Supplier<House> house, boolean possible, ArgumentsCall call,
            Argument... arguments) {
        s.test(what + ", with every combination of edges", () -> {
            String before = Probe.of(house.get());
            for (int[] numbers : combinations(arguments)) {
                String due = due(possible, arguments, numbers);
                House x = house.get();
                String outcome = Due.outcome(() -> call.on(x, numbers)).replaceFirst("^-?\\d+$", "an answer");
                s.same(due, outcome);
                if (!due.equals("an answer")) {
                    s.same(before, Probe.of(x));
                }
            }
        });
    }

    private static String due(boolean possible, Argument[] arguments, int[] numbers) {
        boolean outOfRange = false;
        for (int place = 0; place < arguments.length; place++) {
            boolean wrong = !arguments[place].has(numbers[place]);
            if (wrong && arguments[place].names()) {
                return "throws.IndexOutOfBoundsException";
            }
            outOfRange |= wrong;
        }
        if (outOfRange) {
            return "throws.IllegalArgumentException";
        }
        return possible ? "an answer" : "throws.IllegalStateException";
    }

    private static List<int[]> combinations(Argument[] arguments) {
        List<int[]> all = new ArrayList<>();
        all.add(new int[arguments.length]);
        for (int place = 0; place < arguments.length; place++) {
            List<int[]> longer = new ArrayList<>();
            for (int[] numbers : all) {
                for (int edge : arguments[place].edges()) {
                    int[] next = numbers.clone();
                    next[place] = edge;
                    longer.add(next);
                }
            }
            all = longer;
        }
        return all;
    }

    private void changesNothing() {
        s.says("A call that throws an exception changes nothing.");
        s.test("many refused calls, one after the other", () -> {
            House x = Houses.working(2, 50, 100);
            x.offence(1, 5);
            x.pass(3);
            x.buy(0, 7);
            String before = Probe.of(x);
            refusedCalls(x);
            s.same(before, Probe.of(x));
        });
        s.test("refused calls for the released", () -> {
            House x = twoReleased();
            String before = Probe.of(x);
            refusedCalls(x);
            s.same(before, Probe.of(x));
        });
    }

    private void refusedCalls(House x) {
        List<Sentences.HouseCall> calls = List.of(h -> h.admit(0, 15), h -> h.admit(1, 16), h -> h.course(0, 4, 1),
            h -> h.course(2, 1, 1), h -> h.course(0, 1, 101), h -> h.offence(0, -1), h -> h.offence(-1, 5),
            h -> h.appeal(0, 9), h -> h.appeal(2, 0), h -> h.setTools(0, 21), h -> h.setTools(3, 1),
            h -> h.addOrder(0, 0, 501, 0), h -> h.addOrder(0, 0, 1, 1001), h -> h.addOrder(0, 3, 1, 0),
            h -> h.addOrder(4, 0, 1, 0), h -> h.assign(0, 0), h -> h.assign(0, 1), h -> h.takeOff(2),
            h -> h.takeOff(1), h -> h.buy(0, 24), h -> h.buy(0, 0), h -> h.buy(0, 1001), h -> h.pass(0),
            h -> h.pass(101), h -> h.release(2), h -> h.isIn(2) ? 1 : 0, h -> h.regime(2), h -> h.papers(2, true),
            h -> h.toolsOut(3), h -> h.orderOf(2), h -> h.left(1), h -> h.account(0, 4), h -> h.limit(2),
            h -> h.paidOut(2));
        for (Sentences.HouseCall call : calls) {
            s.is(true, Due.outcome(() -> call.on(x)).startsWith("throws."));
        }
    }
}
