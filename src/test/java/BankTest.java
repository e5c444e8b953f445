/** Promises 17 to 21: the bank, and the passing of a day. */
public final class BankTest {
    private static final Class<IndexOutOfBoundsException> INDEX = IndexOutOfBoundsException.class;
    private static final Class<IllegalArgumentException> ARGUMENT = IllegalArgumentException.class;
    private static final Class<IllegalStateException> STATE = IllegalStateException.class;

    private static final int[] NONE = {-1, Integer.MAX_VALUE, Integer.MIN_VALUE};

    private static final Due due = new Due("BankTest");

    public static void main(String[] args) {
        promise17Account();
        promise18Buy();
        promise18BuyRefuses();
        promise19Limit();
        promise19LimitAndOffences();
        promise20PaidOut();
        promise21PassWorks();
        promise21PassReleases();
        promise21PassRefuses();
        due.end();
    }

    /** Person 0 is on order 0 for long, and gets the wage for each day. */
    private static House earning(int wage) {
        House x = new House();
        x.setTools(0, 20);
        x.addOrder(0, 0, 500, wage);
        x.admit(2000, 1);
        x.assign(0, 0);
        return x;
    }

    private static void accounts(String when, House x, int person, int... want) {
        for (int account = 0; account < 4; account++) {
            int a = account;
            due.answers(when + ", account " + a + " of " + person, want[a], () -> x.account(person, a));
        }
    }

    private static void promise17Account() {
        int[][] parts = {{0, 0, 0, 0, 0}, {1, 0, 0, 0, 1}, {3, 0, 0, 0, 3}, {4, 1, 0, 1, 2}, {5, 1, 1, 1, 2},
            {9, 2, 1, 2, 4}, {33, 9, 6, 9, 9}, {100, 30, 20, 30, 20}, {999, 299, 199, 299, 202},
            {1000, 300, 200, 300, 200}};
        for (int[] part : parts) {
            House x = earning(part[0]);
            accounts("before a day", x, 0, 0, 0, 0, 0);
            x.pass(1);
            accounts("after a day for " + part[0], x, 0, part[1], part[2], part[3], part[4]);
            x.pass(2);
            accounts("each day is rounded", x, 0, 3 * part[1], 3 * part[2], 3 * part[3], 3 * part[4]);
        }
        House x = earning(100);
        for (int none : NONE) {
            due.refuses("account of person " + none, INDEX, x, () -> x.account(none, 0));
            due.refuses("account " + none, INDEX, x, () -> x.account(0, none));
        }
        due.refuses("account of person 1", INDEX, x, () -> x.account(1, 0));
        due.refuses("account 4", INDEX, x, () -> x.account(0, 4));
    }

    private static void promise18Buy() {
        House x = earning(100);
        x.pass(1);
        due.answers("buy 1", 19, () -> x.buy(0, 1));
        due.answers("buy all that is there", 0, () -> x.buy(0, 19));
        accounts("the others are left", x, 0, 30, 20, 30, 0);
        x.pass(5);
        due.answers("buy up to the limit on day 6", 90, () -> x.buy(0, 10));
        due.refuses("more than the limit on day 6", STATE, x, () -> x.buy(0, 1));
        x.pass(1);
        due.answers("a new span on day 7", 80, () -> x.buy(0, 30));
        due.refuses("more than the limit on day 7", STATE, x, () -> x.buy(0, 1));
        x.pass(6);
        due.refuses("the same span on day 13", STATE, x, () -> x.buy(0, 1));
        x.pass(1);
        due.answers("a new span on day 14", 190, () -> x.buy(0, 30));
        x.pass(14);
        due.answers("what was not bought is not kept", 30, () -> x.limit(0));
    }

    private static void promise18BuyRefuses() {
        House x = earning(1000);
        x.admit(2, 1);
        x.assign(1, 0);
        due.refuses("the account has nothing", STATE, x, () -> x.buy(0, 1));
        x.pass(1);
        due.refuses("the account has enough, the limit is lower", STATE, x, () -> x.buy(0, 31));
        due.answers("what was refused does not count", 170, () -> x.buy(0, 30));
        for (int none : NONE) {
            due.refuses("buy of person " + none, INDEX, x, () -> x.buy(none, 0));
            due.refuses("buy for " + none, ARGUMENT, x, () -> x.buy(0, none));
        }
        due.refuses("buy of person 2", INDEX, x, () -> x.buy(2, 1001));
        due.refuses("buy for 0", ARGUMENT, x, () -> x.buy(0, 0));
        due.refuses("buy for 1001", ARGUMENT, x, () -> x.buy(0, 1001));
        due.refuses("buy for 1000", STATE, x, () -> x.buy(0, 1000));
        x.pass(1);
        due.refuses("buy of the released", STATE, x, () -> x.buy(1, 1));
        due.refuses("amounts go before the released", ARGUMENT, x, () -> x.buy(1, 0));
        House poor = earning(5);
        poor.pass(1);
        due.refuses("the account has less, the limit more", STATE, poor, () -> poor.buy(0, 3));
        due.answers("that much it has", 0, () -> poor.buy(0, 2));
    }

    private static void promise19Limit() {
        House x = earning(1000);
        x.admit(3, 0);
        due.answers("regime 1", 30, () -> x.limit(0));
        x.course(0, 1, 0);
        due.answers("regime 2", 50, () -> x.limit(0));
        x.pass(1);
        x.buy(0, 45);
        due.answers("less what was bought", 5, () -> x.limit(0));
        x.offence(0, 0);
        due.answers("it is 0 at least", 0, () -> x.limit(0));
        due.refuses("buy over it", STATE, x, () -> x.buy(0, 1));
        x.appeal(0, 0);
        due.answers("after the appeal", 5, () -> x.limit(0));
        due.answers("the other's", 30, () -> x.limit(1));
        x.pass(2);
        due.answers("of the released", 0, () -> x.limit(1));
        x.pass(3);
        due.answers("on day 6", 5, () -> x.limit(0));
        x.pass(1);
        due.answers("on day 7", 50, () -> x.limit(0));
        for (int none : NONE) {
            due.refuses("limit of person " + none, INDEX, x, () -> x.limit(none));
        }
        due.refuses("limit of person 2", INDEX, x, () -> x.limit(2));
    }

    private static void promise19LimitAndOffences() {
        House x = new House();
        x.admit(2000, 0);
        x.pass(5);
        x.offence(0, 0);
        due.answers("regime 0 and one offence", 5, () -> x.limit(0));
        x.offence(0, 0);
        due.answers("two offences", 0, () -> x.limit(0));
        x.offence(0, 0);
        due.answers("three offences", 0, () -> x.limit(0));
        x.course(0, 0, 0);
        due.answers("regime 1 and three", 15, () -> x.limit(0));
        x.appeal(0, 2);
        due.answers("one of no lowering appealed", 20, () -> x.limit(0));
        x.pass(10);
        x.offence(0, 0);
        x.course(0, 0, 0);
        due.answers("regime 1 and one more", 15, () -> x.limit(0));
        x.pass(19);
        due.answers("29 days later", 15, () -> x.limit(0));
        x.pass(1);
        due.answers("30 days later", 25, () -> x.limit(0));
        x.pass(10);
        due.answers("30 days after the last", 30, () -> x.limit(0));
    }

    private static void promise20PaidOut() {
        House x = earning(100);
        x.admit(3, 1);
        x.admit(3, 0);
        x.assign(1, 0);
        due.answers("at first", 0, () -> x.paidOut(1));
        x.pass(2);
        x.buy(1, 5);
        accounts("in", x, 1, 60, 40, 60, 35);
        due.answers("while in", 0, () -> x.paidOut(1));
        x.pass(1);
        due.answers("saving and canteen", 145, () -> x.paidOut(1));
        accounts("released", x, 1, 90, 60, 0, 0);
        due.answers("who earned nothing", 0, () -> x.paidOut(2));
        x.pass(30);
        due.answers("it stays", 145, () -> x.paidOut(1));
        due.answers("who is in", 0, () -> x.paidOut(0));
        for (int none : NONE) {
            due.refuses("paidOut of person " + none, INDEX, x, () -> x.paidOut(none));
        }
        due.refuses("paidOut of person 3", INDEX, x, () -> x.paidOut(3));
    }

    private static void promise21PassWorks() {
        House x = new House();
        x.setTools(0, 3);
        x.setTools(1, 1);
        x.addOrder(0, 0, 2, 100);
        x.addOrder(0, 1, 4, 10);
        x.admit(100, 1);
        x.admit(100, 1);
        x.admit(100, 1);
        x.assign(2, 0);
        x.assign(1, 0);
        x.assign(0, 0);
        due.answers("a day", 0, () -> x.pass(1));
        accounts("the lower two work", x, 0, 30, 20, 30, 20);
        accounts("the lower two work", x, 1, 30, 20, 30, 20);
        accounts("for the third it is finished", x, 2, 0, 0, 0, 0);
        due.answers("the third leaves it too", -1, () -> x.orderOf(2));
        due.answers("all tools are in", 0, () -> x.toolsOut(0));
        x.assign(2, 1);
        due.answers("more days than work", 0, () -> x.pass(9));
        due.answers("the work ended in between", 0, () -> x.left(1));
        accounts("four days were paid", x, 2, 12, 8, 12, 8);
        due.answers("four days are no paper", 0, () -> x.papers(2, false));
        due.answers("a day of the others is no paper", 0, () -> x.papers(0, false));
    }

    private static void promise21PassReleases() {
        House x = new House();
        x.setTools(0, 3);
        x.addOrder(0, 0, 500, 10);
        x.admit(5, 1);
        x.admit(6, 1);
        x.admit(20, 1);
        x.admit(21, 0);
        x.assign(0, 0);
        x.assign(1, 0);
        x.assign(2, 0);
        due.answers("nobody before the day", 0, () -> x.pass(4));
        due.answers("two on day 5, one by a paper of work", 2, () -> x.pass(1));
        due.answers("release by the paper", 5, () -> x.release(1));
        due.answers("all worked on their last day", 485, () -> x.left(0));
        due.answers("they left the order", 1, () -> x.toolsOut(0));
        due.answers("and are not on it for the next", 2, () -> {
            x.admit(1000, 1);
            return x.assign(4, 0);
        });
        due.answers("several days count together", 2, () -> x.pass(100));
        due.answers("work made it earlier", 17, () -> x.release(2));
        due.answers("without work", 21, () -> x.release(3));
        due.answers("no work after the release", 485 - 12 - 100, () -> x.left(0));
        due.answers("nobody twice", 0, () -> x.pass(100));
    }

    private static void promise21PassRefuses() {
        House x = earning(10);
        int[] wrong = {0, -1, 101, Integer.MAX_VALUE, Integer.MIN_VALUE};
        for (int days : wrong) {
            due.refuses("pass(" + days + ")", ARGUMENT, x, () -> x.pass(days));
        }
        x.admit(1, 0);
        due.answers("no day had passed", 1, () -> x.release(1));
        due.answers("the least", 1, () -> x.pass(1));
        due.answers("the most", 0, () -> x.pass(100));
        due.answers("each was a day of work", 399, () -> x.left(0));
        x.admit(1, 0);
        due.answers("today is day 101", 102, () -> x.release(2));
    }
}
