/** Promises 10 to 16: the workshop. */
public final class WorkshopTest {
    private static final Class<IndexOutOfBoundsException> INDEX = IndexOutOfBoundsException.class;
    private static final Class<IllegalArgumentException> ARGUMENT = IllegalArgumentException.class;
    private static final Class<IllegalStateException> STATE = IllegalStateException.class;

    private static final int[] NONE = {-1, Integer.MAX_VALUE, Integer.MIN_VALUE};

    private static final Due due = new Due("WorkshopTest");

    public static void main(String[] args) {
        promise10SetTools();
        promise11ToolsOut();
        promise12AddOrder();
        promise12AddOrderRefuses();
        promise13Assign();
        promise13AssignRefuses();
        promise14TakeOff();
        promise15OrderOf();
        promise16Left();
        due.end();
    }

    /** Tools of all kinds, and three people with all skills who stay long. */
    private static House house(int toolsOfEach) {
        House x = new House();
        for (int kind = 0; kind < 3; kind++) {
            x.setTools(kind, toolsOfEach);
        }
        for (int person = 0; person < 3; person++) {
            x.admit(1000, 15);
        }
        return x;
    }

    private static void promise10SetTools() {
        House x = house(0);
        due.answers("setTools(0, 20)", 0, () -> x.setTools(0, 20));
        due.answers("setTools(1, 7)", 0, () -> x.setTools(1, 7));
        due.answers("setTools(2, 3)", 0, () -> x.setTools(2, 3));
        due.answers("setTools(0, 0)", 20, () -> x.setTools(0, 0));
        due.answers("setTools(1, 0)", 7, () -> x.setTools(1, 0));
        due.answers("setTools(2, 2)", 3, () -> x.setTools(2, 2));
        x.addOrder(0, 2, 100, 1);
        x.assign(0, 0);
        x.assign(1, 0);
        due.refuses("fewer than are out", STATE, x, () -> x.setTools(2, 1));
        due.refuses("none while some are out", STATE, x, () -> x.setTools(2, 0));
        due.answers("as many as are out", 2, () -> x.setTools(2, 2));
        due.refuses("no tool is there then", STATE, x, () -> x.assign(2, 0));
        due.answers("one more", 2, () -> x.setTools(2, 3));
        due.answers("it can be counted out", 3, () -> x.assign(2, 0));
        x.takeOff(0);
        due.answers("one is in again", 3, () -> x.setTools(2, 2));
        for (int none : NONE) {
            due.refuses("setTools of kind " + none, INDEX, x, () -> x.setTools(none, -1));
            due.refuses("setTools to " + none, ARGUMENT, x, () -> x.setTools(2, none));
        }
        due.refuses("setTools of kind 3", INDEX, x, () -> x.setTools(3, 21));
        due.refuses("setTools to 21", ARGUMENT, x, () -> x.setTools(0, 21));
        due.answers("it is as before", 2, () -> x.setTools(2, 20));
    }

    private static void promise11ToolsOut() {
        House x = house(5);
        x.addOrder(0, 0, 2, 1);
        x.addOrder(0, 1, 100, 1);
        x.admit(4, 1);
        x.assign(0, 0);
        x.assign(1, 0);
        x.assign(3, 1);
        due.answers("two of kind 0", 2, () -> x.toolsOut(0));
        due.answers("one of kind 1", 1, () -> x.toolsOut(1));
        due.answers("none of kind 2", 0, () -> x.toolsOut(2));
        x.setTools(0, 9);
        due.answers("setTools leaves it", 2, () -> x.toolsOut(0));
        x.pass(1);
        due.answers("a finished order gives them back", 0, () -> x.toolsOut(0));
        x.pass(2);
        due.answers("in for a day still", 1, () -> x.toolsOut(1));
        x.pass(1);
        due.answers("the released gives it back", 0, () -> x.toolsOut(1));
        x.assign(0, 1);
        x.takeOff(0);
        due.answers("takeOff gives it back", 0, () -> x.toolsOut(1));
        for (int none : NONE) {
            due.refuses("toolsOut of kind " + none, INDEX, x, () -> x.toolsOut(none));
        }
        due.refuses("toolsOut of kind 3", INDEX, x, () -> x.toolsOut(3));
    }

    private static void promise12AddOrder() {
        House x = house(5);
        due.answers("the least", 0, () -> x.addOrder(0, 0, 1, 0));
        due.answers("the most", 1, () -> x.addOrder(3, 2, 500, 1000));
        due.answers("its work", 500, () -> x.left(1));
        x.assign(0, 0);
        x.assign(1, 1);
        due.answers("its kind of tool", 1, () -> x.toolsOut(2));
        due.answers("the other's", 1, () -> x.toolsOut(0));
        x.pass(1);
        due.answers("a wage of 0", 0, () -> x.account(0, 0));
        due.answers("a day of work without a wage", 0, () -> x.left(0));
        due.answers("a wage of 1000", 300, () -> x.account(1, 0));
        for (int order = 2; order < 8; order++) {
            int want = order;
            due.answers("order " + order, want, () -> x.addOrder(1, 1, want, 5));
        }
        due.answers("each has work of its own", 7, () -> x.left(7));
        due.refuses("a ninth, a finished one among them", STATE, x, () -> x.addOrder(0, 0, 1, 0));
        due.refuses("skills go before 8 orders", INDEX, x, () -> x.addOrder(4, 0, 1, 0));
        due.refuses("kinds go before 8 orders", INDEX, x, () -> x.addOrder(0, 3, 1, 0));
        due.refuses("work goes before 8 orders", ARGUMENT, x, () -> x.addOrder(0, 0, 501, 0));
        due.refuses("the wage goes before 8 orders", ARGUMENT, x, () -> x.addOrder(0, 0, 1, 1001));
    }

    private static void promise12AddOrderRefuses() {
        House x = house(1);
        for (int none : NONE) {
            due.refuses("skill " + none, INDEX, x, () -> x.addOrder(none, 0, 0, -1));
            due.refuses("kind " + none, INDEX, x, () -> x.addOrder(0, none, 0, -1));
            due.refuses("work " + none, ARGUMENT, x, () -> x.addOrder(0, 0, none, 0));
            due.refuses("wage " + none, ARGUMENT, x, () -> x.addOrder(0, 0, 1, none));
        }
        due.refuses("skill 4", INDEX, x, () -> x.addOrder(4, 0, 501, 1001));
        due.refuses("kind 3", INDEX, x, () -> x.addOrder(3, 3, 501, 1001));
        due.refuses("work 0", ARGUMENT, x, () -> x.addOrder(0, 0, 0, 0));
        due.refuses("work 501", ARGUMENT, x, () -> x.addOrder(0, 0, 501, 0));
        due.refuses("wage 1001", ARGUMENT, x, () -> x.addOrder(0, 0, 1, 1001));
        due.answers("none of them was added", 0, () -> x.addOrder(3, 2, 1, 1000));
    }

    private static void promise13Assign() {
        House x = house(2);
        x.addOrder(2, 1, 3, 10);
        x.addOrder(3, 1, 10, 10);
        due.answers("the first on it", 1, () -> x.assign(1, 0));
        due.answers("the first on another", 1, () -> x.assign(0, 1));
        due.refuses("both share the tools", STATE, x, () -> x.assign(2, 0));
        x.setTools(1, 3);
        due.answers("the second on it", 2, () -> x.assign(2, 0));
        due.answers("three tools are out", 3, () -> x.toolsOut(1));
        x.takeOff(1);
        due.answers("back again", 2, () -> x.assign(1, 0));
        x.pass(1);
        due.answers("both worked", 1, () -> x.left(0));
        due.answers("and the one on the other", 9, () -> x.left(1));
    }

    private static void promise13AssignRefuses() {
        House x = new House();
        x.setTools(0, 1);
        x.setTools(1, 5);
        x.admit(1000, 1);
        x.admit(1, 15);
        x.admit(1000, 15);
        x.addOrder(0, 0, 50, 1);
        x.addOrder(1, 1, 50, 1);
        x.addOrder(2, 2, 50, 1);
        x.addOrder(0, 1, 1, 1);
        for (int none : NONE) {
            due.refuses("assign person " + none, INDEX, x, () -> x.assign(none, 0));
            due.refuses("assign to order " + none, INDEX, x, () -> x.assign(0, none));
        }
        due.refuses("assign person 3", INDEX, x, () -> x.assign(3, 0));
        due.refuses("assign to order 4", INDEX, x, () -> x.assign(0, 4));
        due.refuses("assign to order 8", INDEX, x, () -> x.assign(0, 8));
        due.refuses("without the skill", STATE, x, () -> x.assign(0, 1));
        due.refuses("without a tool of the kind", STATE, x, () -> x.assign(2, 2));
        due.answers("on the one tool", 1, () -> x.assign(2, 0));
        due.refuses("no tool is left", STATE, x, () -> x.assign(0, 0));
        due.refuses("on an order already", STATE, x, () -> x.assign(2, 1));
        due.refuses("on that order already", STATE, x, () -> x.assign(2, 0));
        due.answers("on the short one", 1, () -> x.assign(0, 3));
        x.pass(1);
        due.refuses("on a finished order", STATE, x, () -> x.assign(0, 3));
        due.refuses("the released", STATE, x, () -> x.assign(1, 1));
        due.refuses("orders go before the released", INDEX, x, () -> x.assign(1, 4));
    }

    private static void promise14TakeOff() {
        House x = house(3);
        x.addOrder(0, 0, 50, 10);
        x.addOrder(0, 0, 50, 10);
        x.admit(2, 15);
        due.refuses("takeOff of one on none", STATE, x, () -> x.takeOff(0));
        x.assign(0, 1);
        x.assign(1, 1);
        x.assign(3, 0);
        due.answers("takeOff answers the order", 1, () -> x.takeOff(0));
        due.answers("the tool is in", 2, () -> x.toolsOut(0));
        due.refuses("takeOff again", STATE, x, () -> x.takeOff(0));
        x.pass(1);
        due.answers("only the other worked", 49, () -> x.left(1));
        due.answers("the account of who was off", 0, () -> x.account(0, 0));
        x.pass(1);
        due.refuses("takeOff of the released", STATE, x, () -> x.takeOff(3));
        for (int none : NONE) {
            due.refuses("takeOff of person " + none, INDEX, x, () -> x.takeOff(none));
        }
        due.refuses("takeOff of person 4", INDEX, x, () -> x.takeOff(4));
    }

    private static void promise15OrderOf() {
        House x = house(3);
        x.addOrder(0, 0, 2, 10);
        x.addOrder(0, 1, 50, 10);
        x.admit(3, 15);
        due.answers("on none", -1, () -> x.orderOf(0));
        x.assign(0, 0);
        x.assign(1, 1);
        x.assign(3, 1);
        due.answers("on order 0", 0, () -> x.orderOf(0));
        due.answers("on order 1", 1, () -> x.orderOf(1));
        x.pass(1);
        due.answers("not finished", 0, () -> x.orderOf(0));
        x.pass(1);
        due.answers("finished", -1, () -> x.orderOf(0));
        due.answers("in still", 1, () -> x.orderOf(3));
        x.pass(1);
        due.answers("the released", -1, () -> x.orderOf(3));
        due.answers("who is left on it", 1, () -> x.orderOf(1));
        x.takeOff(1);
        due.answers("taken off", -1, () -> x.orderOf(1));
        for (int none : NONE) {
            due.refuses("orderOf person " + none, INDEX, x, () -> x.orderOf(none));
        }
        due.refuses("orderOf person 4", INDEX, x, () -> x.orderOf(4));
    }

    private static void promise16Left() {
        House x = house(3);
        x.addOrder(0, 0, 5, 10);
        x.addOrder(0, 0, 9, 10);
        due.answers("at first", 5, () -> x.left(0));
        x.pass(3);
        due.answers("nobody works", 5, () -> x.left(0));
        x.assign(0, 0);
        x.assign(1, 0);
        x.assign(2, 0);
        x.pass(1);
        due.answers("three work", 2, () -> x.left(0));
        x.pass(1);
        due.answers("it is finished", 0, () -> x.left(0));
        x.pass(1);
        due.answers("it stays finished", 0, () -> x.left(0));
        due.answers("the other", 9, () -> x.left(1));
        for (int none : NONE) {
            due.refuses("left of order " + none, INDEX, x, () -> x.left(none));
        }
        due.refuses("left of order 2", INDEX, x, () -> x.left(2));
        due.refuses("left of order 8", INDEX, x, () -> x.left(8));
    }
}
