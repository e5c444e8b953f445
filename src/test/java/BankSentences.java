/** Promises 17 to 21: the bank, and the passing of days. */
final class BankSentences {
    private final Sentences s;

    BankSentences(Sentences sentences) {
        s = sentences;
    }

    void all() {
        account();
        buyAnswers();
        buyRefuses();
        limitAnswers();
        limitIsNotNegative();
        limitRefuses();
        paidOut();
        passAnswers();
        passRefuses();
    }

    private void account() {
        s.section("Promise 17");
        s.says("Returns an account of a person.");
        s.test("each person has own ones", () -> {
            House x = Houses.working(2, 3, 100);
            x.pass(2);
            s.accounts(x, 0, 60, 40, 60, 40);
            s.accounts(x, 1, 30, 20, 30, 20);
        });

        s.says("`person`: a person");
        s.test("the last of 10", () -> {
            House x = Houses.shop(10, 3, 100);
            x.assign(9, 0);
            x.pass(1);
            s.accounts(x, 9, 30, 20, 30, 20);
            s.accounts(x, 0, 0, 0, 0, 0);
        });

        s.says("`account`: 0 victims, 1 family, 2 saving, 3 canteen");
        s.test("a wage of 99 for each", () -> {
            House x = Houses.working(1, 3, 99);
            x.pass(1);
            s.is(29, x.account(0, 0));
            s.is(19, x.account(0, 1));
            s.is(29, x.account(0, 2));
            s.is(22, x.account(0, 3));
        });

        s.says("Returns what is in it.");
        s.test("0 at first", () -> s.accounts(Houses.people(1), 0, 0, 0, 0, 0));
        s.test("of the released, saving and canteen are 0", () -> s.accounts(Houses.released(), 0, 300, 200, 0, 0));

        s.says("Throws `IndexOutOfBoundsException` if there is no such person or account");
        s.noSuchPerson((x, person) -> x.account(person, 0));
        s.outside("account", 0, 3, Sentences.INDEX, Houses::earned, (x, account) -> x.account(0, account));
    }

    private void buyAnswers() {
        s.section("Promise 18");
        s.says("Lets a person buy in the canteen.");
        s.test("of the canteen's account alone", () -> {
            House x = Houses.earned();
            s.is(175, x.buy(0, 25));
            s.accounts(x, 0, 300, 200, 300, 175);
            s.is(5, x.limit(0));
        });

        s.says("`person`: a person");
        s.test("the last of 10", () -> {
            House x = Houses.working(10, 500, 100);
            x.pass(1);
            s.is(15, x.buy(9, 5));
            s.is(20, x.account(0, 3));
            s.is(30, x.limit(0));
        });

        s.says("`amount`: 1 to 1000");
        s.test("an amount of 1", () -> s.is(199, Houses.earned().buy(0, 1)));
        s.test("an amount of 50, the most that a limit allows", () -> {
            House x = Houses.earned();
            x.course(0, 0, 0);
            s.is(150, x.buy(0, 50));
        });
        s.test("an amount of 1000 is in range, and over every limit", () -> {
            House x = Houses.working(1, 500, 1000);
            x.pass(10);
            s.is(2000, x.account(0, 3));
            s.refuses(Sentences.STATE, x, h -> h.buy(0, 1000));
        });

        s.says("Returns what is left in the canteen's account.");
        s.test("0 if it was all", () -> {
            House x = Houses.working(1, 500, 100);
            x.pass(1);
            s.is(0, x.buy(0, 20));
            s.is(0, x.account(0, 3));
        });
        s.test("after several", () -> {
            House x = Houses.earned();
            s.is(190, x.buy(0, 10));
            s.is(180, x.buy(0, 10));
            s.is(170, x.buy(0, 10));
        });
    }

    private void buyRefuses() {
        s.says("Throws `IndexOutOfBoundsException` if there is no such person");
        s.noSuchPerson((x, person) -> x.buy(person, 1));

        s.says("Throws `IllegalArgumentException` if amount is out of range");
        s.outside("an amount of", 1, 1000, Sentences.ARGUMENT, Houses::earned, (x, amount) -> x.buy(0, amount));

        s.says("Throws `IllegalStateException` if the person is released, the account has less, or it would be more "
            + "than the limit in this span");
        s.test("a released person", () -> s.refuses(Sentences.STATE, Houses.released(), x -> x.buy(0, 1)));
        s.test("the account has 0", () -> s.refuses(Sentences.STATE, Houses.people(1), x -> x.buy(0, 1)));
        s.test("the account has one less", () -> {
            House x = Houses.working(1, 500, 100);
            x.pass(1);
            s.refuses(Sentences.STATE, x, h -> h.buy(0, 21));
            s.is(0, x.buy(0, 20));
        });
        s.test("the account has one less, and the others have more", () -> {
            House x = Houses.working(1, 500, 100);
            x.pass(1);
            x.buy(0, 5);
            s.refuses(Sentences.STATE, x, h -> h.buy(0, 16));
            s.is(0, x.buy(0, 15));
        });
        s.test("one more than the limit", () -> {
            House x = Houses.earned();
            s.refuses(Sentences.STATE, x, h -> h.buy(0, 31));
            s.is(170, x.buy(0, 30));
        });
        s.test("one more than the limit with what was bought in this span", () -> {
            House x = Houses.earned();
            x.buy(0, 11);
            s.refuses(Sentences.STATE, x, h -> h.buy(0, 20));
            s.is(170, x.buy(0, 19));
            s.refuses(Sentences.STATE, x, h -> h.buy(0, 1));
        });
        s.test("the limit is 0", () -> {
            House x = Houses.earned();
            x.offence(0, 0);
            x.offence(0, 0);
            s.refuses(Sentences.STATE, x, h -> h.buy(0, 1));
        });
        s.test("the limit is below what was bought", () -> {
            House x = Houses.earned();
            x.buy(0, 30);
            x.offence(0, 0);
            s.refuses(Sentences.STATE, x, h -> h.buy(0, 1));
        });
    }

    private void limitAnswers() {
        s.section("Promise 19");
        s.says("Returns for how much a person can still buy in this span, by the limit alone.");
        s.test("the account may have less", () -> s.is(30, Houses.people(1).limit(0)));
        s.test("less what was bought in this span", () -> {
            House x = Houses.earned();
            x.buy(0, 11);
            s.is(19, x.limit(0));
            x.buy(0, 19);
            s.is(0, x.limit(0));
        });
        s.test("what was bought in the span before is left aside", () -> {
            House x = Houses.earned();
            x.buy(0, 11);
            s.is(0, x.pass(5));
            s.is(19, x.limit(0));
            x.pass(1);
            s.is(30, x.limit(0));
        });
        s.test("a course in the span raises it", () -> {
            House x = Houses.earned();
            x.buy(0, 30);
            x.course(0, 0, 0);
            s.is(20, x.limit(0));
        });

        s.says("`person`: a person");
        s.test("the first and the last of 10", () -> {
            House x = Houses.people(10);
            x.course(9, 0, 0);
            s.is(50, x.limit(9));
            s.is(30, x.limit(0));
        });
    }

    private void limitIsNotNegative() {
        s.says("Returns the amount, 0 at least, and 0 if the person is released.");
        s.test("an offence after a purchase brings it to 0 and no lower", () -> {
            House x = Houses.earned();
            x.buy(0, 30);
            x.offence(0, 0);
            s.is(0, x.limit(0));
            x.appeal(0, 0);
            s.is(0, x.limit(0));
            x.course(0, 0, 0);
            s.is(20, x.limit(0));
        });
        s.test("the limit of the span less the purchase is just 0", () -> {
            House x = Houses.earned();
            x.buy(0, 5);
            x.offence(0, 0);
            s.is(0, x.limit(0));
        });
        s.test("more offences than the regime makes up for", () -> {
            s.is(5, Houses.papers(1, 0).limit(0));
            s.is(0, Houses.papers(2, 0).limit(0));
            s.is(0, Houses.papers(3, 0).limit(0));
            s.is(0, Houses.papers(50, 0).limit(0));
        });
        s.test("a released person", () -> {
            House x = new House();
            x.admit(1, 0);
            s.is(30, x.limit(0));
            x.pass(1);
            s.is(0, x.limit(0));
            x.pass(100);
            s.is(0, x.limit(0));
        });
    }

    private void limitRefuses() {
        s.says("Throws `IndexOutOfBoundsException` if there is no such person");
        s.noSuchPerson(House::limit);
    }

    private void paidOut() {
        s.section("Promise 20");
        s.says("Returns what a person was paid out.");
        s.test("saving and canteen of all days, less what was bought", () -> {
            House x = Houses.shop(0, 50, 100);
            x.admit(3, 1);
            x.assign(0, 0);
            x.pass(2);
            x.buy(0, 7);
            x.pass(1);
            s.is(90 + 60 - 7, x.paidOut(0));
        });

        s.says("`person`: a person");
        s.test("the last of 10", () -> {
            House x = Houses.shop(9, 50, 100);
            x.admit(1, 1);
            x.assign(9, 0);
            x.pass(1);
            s.is(50, x.paidOut(9));
            s.is(0, x.paidOut(0));
        });

        s.says("Returns the sum, 0 if the person is in.");
        s.test("in, with money in the accounts", () -> s.is(0, Houses.earned().paidOut(0)));
        s.test("released, without money", () -> {
            House x = new House();
            x.admit(1, 0);
            x.pass(1);
            s.is(0, x.paidOut(0));
        });
        s.test("it stays", () -> {
            House x = Houses.released();
            s.is(500, x.paidOut(0));
            x.pass(100);
            s.is(500, x.paidOut(0));
        });

        s.says("Throws `IndexOutOfBoundsException` if there is no such person");
        s.noSuchPerson(House::paidOut);
    }

    private void passAnswers() {
        s.section("Promise 21");
        s.says("Lets days pass.");
        s.test("two calls are as one for as many days", () -> {
            House once = Houses.working(3, 40, 33);
            House twice = Houses.working(3, 40, 33);
            once.pass(9);
            twice.pass(4);
            twice.pass(5);
            s.same(Probe.of(once), Probe.of(twice));
        });

        s.says("`days`: 1 to 100");
        s.test("1 day", () -> daysPass(1));
        s.test("100 days", () -> daysPass(100));

        s.says("Returns how many people are released in them.");
        s.test("0, all, and those released before left aside", () -> {
            House x = new House();
            for (int person = 0; person < 10; person++) {
                x.admit(3 + person, 0);
            }
            s.is(0, x.pass(2));
            s.is(1, x.pass(1));
            s.is(9, x.pass(9));
            s.is(0, x.pass(100));
        });
        s.test("several on the same day", () -> {
            House x = new House();
            for (int person = 0; person < 10; person++) {
                x.admit(3, 0);
            }
            s.is(0, x.pass(2));
            s.is(10, x.pass(1));
        });
        s.test("0 in an empty house", () -> s.is(0, new House().pass(100)));
    }

    private void daysPass(int days) {
        House x = Houses.working(1, 500, 100);
        s.is(0, x.pass(days));
        s.is(500 - days, x.left(0));
        s.is(20L * days, x.account(0, 3));
        x.admit(7, 0);
        s.is(days + 7, x.release(1));
    }

    private void passRefuses() {
        s.says("Throws `IllegalArgumentException` if days is out of range");
        s.outside("days of", 1, 100, Sentences.ARGUMENT, () -> Houses.working(1, 500, 100), House::pass);
    }
}
