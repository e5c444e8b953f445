/** Promises 10 to 16: the workshop. */
final class WorkshopSentences {
    private final Sentences s;

    WorkshopSentences(Sentences sentences) {
        s = sentences;
    }

    void all() {
        setToolsAnswers();
        setToolsRefuses();
        toolsOut();
        addOrderAnswers();
        addOrderRefuses();
        assignAnswers();
        assignRefuses();
        takeOff();
        orderOf();
        left();
    }

    private void setToolsAnswers() {
        s.section("Promise 10");
        s.says("Sets how many tools of a kind there are, those counted out included.");
        s.test("those counted out are among them", () -> {
            House x = Houses.working(2, 50, 0);
            s.is(20, x.setTools(0, 3));
            x.admit(10, 1);
            x.admit(10, 1);
            s.is(3, x.assign(2, 0));
            s.refuses(Sentences.STATE, x, h -> h.assign(3, 0));
        });
        s.test("those counted in are there still", () -> {
            House x = Houses.working(2, 50, 0);
            x.setTools(0, 2);
            x.takeOff(0);
            s.is(1, x.toolsOut(0));
            s.is(2, x.setTools(0, 1));
            s.refuses(Sentences.STATE, x, h -> h.assign(0, 0));
        });

        s.says("`kind`: 0 to 2");
        for (int kind = 0; kind < 3; kind++) {
            int set = kind;
            s.test("kind " + kind + " and no other", () -> {
                House x = new House();
                s.is(0, x.setTools(set, 5));
                for (int other = 0; other < 3; other++) {
                    s.is(other == set ? 5 : 0, x.setTools(other, 1));
                }
            });
        }

        s.says("`count`: 0 to 20");
        s.test("0 tools", () -> {
            House x = Houses.shop(1, 50, 0);
            s.is(20, x.setTools(0, 0));
            s.refuses(Sentences.STATE, x, h -> h.assign(0, 0));
        });
        s.test("1 tool", () -> {
            House x = Houses.shop(2, 50, 0);
            s.is(20, x.setTools(0, 1));
            s.is(1, x.assign(1, 0));
            s.refuses(Sentences.STATE, x, h -> h.assign(0, 0));
        });
        s.test("20 tools", () -> {
            House x = new House();
            s.is(0, x.setTools(0, 20));
            s.is(20, x.setTools(0, 20));
        });

        s.says("Returns the number before.");
        s.test("0 at first, then what was set", () -> {
            House x = new House();
            s.is(0, x.setTools(2, 7));
            s.is(7, x.setTools(2, 0));
            s.is(0, x.setTools(2, 20));
            s.is(20, x.setTools(2, 20));
        });
    }

    private void setToolsRefuses() {
        s.says("Throws `IndexOutOfBoundsException` if there is no such kind");
        s.outside("kind", 0, 2, Sentences.INDEX, House::new, (x, kind) -> x.setTools(kind, 5));

        s.says("Throws `IllegalArgumentException` if count is out of range");
        s.outside("a count of", 0, 20, Sentences.ARGUMENT, House::new, (x, count) -> x.setTools(1, count));

        s.says("Throws `IllegalStateException` if more than that are counted out");
        s.test("one less than are out", () -> s.refuses(Sentences.STATE, Houses.working(3, 50, 0),
            x -> x.setTools(0, 2)));
        s.test("0 while one is out", () -> s.refuses(Sentences.STATE, Houses.working(1, 50, 0),
            x -> x.setTools(0, 0)));
        s.test("as many as are out", () -> {
            House x = Houses.working(3, 50, 0);
            s.is(20, x.setTools(0, 3));
            s.is(3, x.setTools(0, 3));
        });
        s.test("0 while another kind is out", () -> s.is(20, Houses.working(1, 50, 0).setTools(1, 0)));
    }

    private void toolsOut() {
        s.section("Promise 11");
        s.says("Returns how many tools of a kind are counted out.");
        s.test("as many as people are on orders of the kind", () -> {
            House x = Houses.working(10, 50, 0);
            s.is(10, x.toolsOut(0));
            x.takeOff(3);
            s.is(9, x.toolsOut(0));
        });
        s.test("those of two orders of the kind together", () -> {
            House x = Houses.working(1, 50, 0);
            x.addOrder(1, 0, 5, 0);
            x.admit(5, 15);
            x.assign(1, 1);
            s.is(2, x.toolsOut(0));
        });
        s.test("setTools leaves it", () -> {
            House x = Houses.working(2, 50, 0);
            x.setTools(0, 7);
            s.is(2, x.toolsOut(0));
        });

        s.says("`kind`: 0 to 2");
        for (int kind = 0; kind < 3; kind++) {
            int out = kind;
            s.test("kind " + kind + " and no other", () -> {
                House x = Houses.shop(1, 50, 0);
                x.addOrder(0, out, 50, 0);
                x.assign(0, 1);
                for (int other = 0; other < 3; other++) {
                    s.is(other == out ? 1 : 0, x.toolsOut(other));
                }
            });
        }

        s.says("Returns the number.");
        s.test("0 without people on orders", () -> {
            s.is(0, new House().toolsOut(0));
            s.is(0, Houses.shop(1, 50, 0).toolsOut(2));
        });

        s.says("Throws `IndexOutOfBoundsException` if there is no such kind");
        s.outside("kind", 0, 2, Sentences.INDEX, House::new, House::toolsOut);
    }

    private void addOrderAnswers() {
        s.section("Promise 12");
        s.says("Adds an order.");
        s.test("it is there with its work, and nobody is on it", () -> {
            House x = Houses.shop(1, 50, 0);
            s.is(1, x.addOrder(0, 0, 7, 1));
            s.is(7, x.left(1));
            s.is(50, x.left(0));
            s.is(1, x.assign(0, 1));
        });

        s.says("`skill`: 0 to 3");
        for (int skill = 0; skill < 4; skill++) {
            int wanted = skill;
            s.test("skill " + skill, () -> {
                House x = Houses.shop(0, 50, 0);
                s.is(1, x.addOrder(wanted, 0, 5, 0));
                x.admit(50, 15 - (1 << wanted));
                x.admit(50, 1 << wanted);
                s.refuses(Sentences.STATE, x, h -> h.assign(0, 1));
                s.is(1, x.assign(1, 1));
            });
        }

        s.says("`kind`: kind of its tool, 0 to 2");
        for (int kind = 0; kind < 3; kind++) {
            int wanted = kind;
            s.test("kind " + kind, () -> {
                House x = Houses.shop(1, 50, 0);
                x.setTools((wanted + 1) % 3, 0);
                x.setTools((wanted + 2) % 3, 0);
                s.is(1, x.addOrder(0, wanted, 5, 0));
                s.is(1, x.assign(0, 1));
                s.is(1, x.toolsOut(wanted));
            });
        }

        s.says("`work`: 1 to 500 days of work");
        s.test("1 day", () -> {
            House x = Houses.working(1, 1, 0);
            s.is(1, x.left(0));
            x.pass(1);
            s.is(0, x.left(0));
            s.is(-1, x.orderOf(0));
        });
        s.test("500 days", () -> {
            House x = Houses.working(1, 500, 0);
            s.is(500, x.left(0));
            for (int hundred = 0; hundred < 4; hundred++) {
                x.pass(100);
            }
            x.pass(99);
            s.is(1, x.left(0));
            s.is(0, x.orderOf(0));
            x.pass(1);
            s.is(0, x.left(0));
            s.is(-1, x.orderOf(0));
        });

        s.says("`wage`: 0 to 1000");
        s.test("a wage of 0", () -> {
            House x = Houses.working(1, 5, 0);
            x.pass(1);
            s.is(4, x.left(0));
            s.accounts(x, 0, 0, 0, 0, 0);
        });
        s.test("a wage of 1000", () -> {
            House x = Houses.working(1, 5, 1000);
            x.pass(1);
            s.accounts(x, 0, 300, 200, 300, 200);
        });

        s.says("Returns number of the order.");
        s.test("the first is 0, and the eighth 7", () -> {
            House x = new House();
            for (int order = 0; order < 8; order++) {
                s.is(order, x.addOrder(0, 0, 1, 0));
            }
        });
        s.test("the number of a finished order is not given again", () -> {
            House x = Houses.working(1, 1, 0);
            x.pass(1);
            s.is(1, x.addOrder(0, 0, 1, 0));
        });
    }

    private void addOrderRefuses() {
        s.says("Throws `IndexOutOfBoundsException` if there is no such skill or kind");
        s.outside("skill", 0, 3, Sentences.INDEX, House::new, (x, skill) -> x.addOrder(skill, 0, 1, 0));
        s.outside("kind", 0, 2, Sentences.INDEX, House::new, (x, kind) -> x.addOrder(3, kind, 1, 0));

        s.says("Throws `IllegalArgumentException` if work or wage is out of range");
        s.outside("work of", 1, 500, Sentences.ARGUMENT, House::new, (x, work) -> x.addOrder(0, 0, work, 0));
        s.outside("a wage of", 0, 1000, Sentences.ARGUMENT, House::new, (x, wage) -> x.addOrder(0, 0, 1, wage));
        s.test("both", () -> s.refuses(Sentences.ARGUMENT, new House(), x -> x.addOrder(0, 0, 0, 1001)));

        s.says("Throws `IllegalStateException` if there are 8 orders");
        s.test("7 orders leave room for the eighth", () -> s.is(7, Houses.orders(7).addOrder(0, 0, 1, 0)));
        s.test("8 orders", () -> s.refuses(Sentences.STATE, Houses.orders(8), x -> x.addOrder(0, 0, 1, 0)));
        s.test("8 orders, finished ones among them", () -> {
            House x = Houses.orders(8);
            x.setTools(0, 1);
            x.assign(0, 0);
            x.pass(1);
            s.is(0, x.left(0));
            s.refuses(Sentences.STATE, x, h -> h.addOrder(0, 0, 1, 0));
        });
    }

    private void assignAnswers() {
        s.section("Promise 13");
        s.says("Puts a person on an order.");
        s.test("the person is on it, and works from this day on", () -> {
            House x = Houses.shop(2, 50, 100);
            s.is(1, x.assign(1, 0));
            s.is(0, x.orderOf(1));
            s.is(-1, x.orderOf(0));
            x.pass(1);
            s.is(49, x.left(0));
            s.accounts(x, 1, 30, 20, 30, 20);
            s.accounts(x, 0, 0, 0, 0, 0);
        });

        s.says("`person`: a person");
        s.test("the first and the last of 10", () -> {
            House x = Houses.shop(10, 50, 100);
            s.is(1, x.assign(9, 0));
            s.is(0, x.orderOf(9));
            s.is(2, x.assign(0, 0));
        });

        s.says("`order`: an order");
        s.test("the first and the last of 8", () -> {
            House x = Houses.orders(8);
            x.setTools(0, 1);
            s.is(1, x.assign(0, 7));
            s.is(7, x.orderOf(0));
            x.takeOff(0);
            s.is(1, x.assign(0, 0));
            s.is(0, x.orderOf(0));
        });

        s.says("Returns how many people are on it then.");
        s.test("from 1 to 10", () -> {
            House x = Houses.shop(10, 50, 100);
            for (int person = 0; person < 10; person++) {
                s.is(1 + person, x.assign(person, 0));
            }
        });
        s.test("those on another order left aside, and those who left it", () -> {
            House x = Houses.working(3, 50, 100);
            x.addOrder(0, 0, 5, 1);
            x.takeOff(0);
            s.is(1, x.assign(0, 1));
            x.offence(2, 0);
            x.admit(5, 1);
            s.is(2, x.assign(3, 0));
        });
    }

    private void assignRefuses() {
        s.says("Throws `IndexOutOfBoundsException` if there is no such person or order");
        s.noSuchPerson((x, person) -> x.assign(person, 0));
        s.outside("of one order, order", 0, 0, Sentences.INDEX, () -> Houses.shop(1, 50, 1),
            (x, order) -> x.assign(0, order));
        s.outside("of eight orders, order", 0, 7, Sentences.INDEX, () -> Houses.orders(8),
            (x, order) -> x.assign(0, order));

        s.says("Throws `IllegalStateException` if the person is released or on an order, has not the skill, the order "
            + "is finished, or no tool of its kind is there");
        s.test("a released person", () -> s.refuses(Sentences.STATE, Houses.released(), x -> x.assign(0, 0)));
        s.test("a person on that order", () -> s.refuses(Sentences.STATE, Houses.working(1, 50, 1),
            x -> x.assign(0, 0)));
        s.test("a person on another order", () -> {
            House x = Houses.working(1, 50, 1);
            x.addOrder(0, 1, 5, 1);
            s.refuses(Sentences.STATE, x, h -> h.assign(0, 1));
        });
        s.test("a person who has all skills but that", () -> {
            House x = Houses.shop(0, 50, 1);
            x.admit(5, 14);
            s.refuses(Sentences.STATE, x, h -> h.assign(0, 0));
        });
        s.test("a finished order", () -> {
            House x = Houses.working(1, 1, 1);
            x.pass(1);
            s.refuses(Sentences.STATE, x, h -> h.assign(0, 0));
        });
        s.test("an order that needs one day still", () -> {
            House x = Houses.working(1, 2, 1);
            x.pass(1);
            x.takeOff(0);
            s.is(1, x.assign(0, 0));
        });
        s.test("there are no tools of its kind", () -> {
            House x = Houses.shop(1, 50, 1);
            x.setTools(0, 0);
            s.refuses(Sentences.STATE, x, h -> h.assign(0, 0));
        });
        s.test("the last tool of its kind is there, and then counted out", () -> {
            House x = Houses.shop(3, 50, 1);
            x.setTools(0, 2);
            s.is(1, x.assign(0, 0));
            s.is(2, x.assign(1, 0));
            s.refuses(Sentences.STATE, x, h -> h.assign(2, 0));
            x.takeOff(1);
            s.is(2, x.assign(2, 0));
        });
        s.test("the last tool is counted out for another order of the kind", () -> {
            House x = Houses.working(1, 50, 1);
            x.setTools(0, 1);
            x.addOrder(0, 0, 5, 1);
            x.admit(5, 1);
            s.refuses(Sentences.STATE, x, h -> h.assign(1, 1));
        });
    }

    private void takeOff() {
        s.section("Promise 14");
        s.says("Takes a person off the order.");
        s.test("the person is on none, and does not work on this day", () -> {
            House x = Houses.working(2, 50, 100);
            x.takeOff(0);
            s.is(-1, x.orderOf(0));
            s.is(0, x.orderOf(1));
            s.is(1, x.toolsOut(0));
            x.pass(1);
            s.is(49, x.left(0));
            s.accounts(x, 0, 0, 0, 0, 0);
        });

        s.says("`person`: a person");
        s.test("the last of 10", () -> {
            House x = Houses.working(10, 50, 100);
            s.is(0, x.takeOff(9));
            s.is(0, x.orderOf(8));
        });

        s.says("Returns the order.");
        s.test("the first and the last of 8", () -> {
            House x = Houses.orders(8);
            x.setTools(0, 1);
            x.assign(0, 0);
            s.is(0, x.takeOff(0));
            x.assign(0, 7);
            s.is(7, x.takeOff(0));
        });

        s.says("Throws `IndexOutOfBoundsException` if there is no such person");
        s.noSuchPerson(House::takeOff);

        s.says("Throws `IllegalStateException` if the person is on none");
        s.test("a person who never was", () -> s.refuses(Sentences.STATE, Houses.shop(1, 50, 1), x -> x.takeOff(0)));
        s.test("a person who was taken off", () -> {
            House x = Houses.working(1, 50, 1);
            x.takeOff(0);
            s.refuses(Sentences.STATE, x, h -> h.takeOff(0));
        });
        s.test("a person who left by an offence", () -> {
            House x = Houses.working(1, 50, 1);
            x.offence(0, 1);
            s.refuses(Sentences.STATE, x, h -> h.takeOff(0));
        });
        s.test("a person whose order is finished", () -> {
            House x = Houses.working(1, 1, 1);
            x.pass(1);
            s.refuses(Sentences.STATE, x, h -> h.takeOff(0));
        });
        s.test("a released person", () -> s.refuses(Sentences.STATE, Houses.released(), x -> x.takeOff(0)));
    }

    private void orderOf() {
        s.section("Promise 15");
        s.says("Returns the order of a person.");
        s.test("the first and the last of 8", () -> {
            House x = Houses.orders(8);
            x.setTools(0, 1);
            x.assign(0, 0);
            s.is(0, x.orderOf(0));
            x.takeOff(0);
            x.assign(0, 7);
            s.is(7, x.orderOf(0));
        });

        s.says("`person`: a person");
        s.test("the first and the last of 10", () -> {
            House x = Houses.shop(10, 50, 1);
            x.assign(9, 0);
            s.is(0, x.orderOf(9));
            s.is(-1, x.orderOf(0));
        });

        s.says("Returns the order, -1 if the person is on none.");
        s.test("a person who never was on one", () -> s.is(-1, Houses.shop(1, 50, 1).orderOf(0)));
        s.test("a person whose order is finished", () -> {
            House x = Houses.working(1, 2, 1);
            x.pass(1);
            s.is(0, x.orderOf(0));
            x.pass(1);
            s.is(-1, x.orderOf(0));
        });
        s.test("a released person", () -> s.is(-1, Houses.released().orderOf(0)));

        s.says("Throws `IndexOutOfBoundsException` if there is no such person");
        s.noSuchPerson(House::orderOf);
    }

    private void left() {
        s.section("Promise 16");
        s.says("Returns how much work an order needs still.");
        s.test("one day less for each person and day", () -> {
            House x = Houses.working(3, 50, 1);
            s.is(50, x.left(0));
            x.pass(1);
            s.is(47, x.left(0));
            x.pass(2);
            s.is(41, x.left(0));
        });
        s.test("nobody works on it", () -> {
            House x = Houses.shop(3, 50, 1);
            x.pass(100);
            s.is(50, x.left(0));
        });

        s.says("`order`: an order");
        s.test("the first and the last of 8", () -> {
            House x = Houses.orders(8);
            s.is(1, x.left(0));
            s.is(8, x.left(7));
        });

        s.says("Returns the days, 0 if it is finished.");
        s.test("on the last day and after it", () -> {
            House x = Houses.working(1, 3, 1);
            x.pass(2);
            s.is(1, x.left(0));
            x.pass(1);
            s.is(0, x.left(0));
            x.pass(1);
            s.is(0, x.left(0));
        });
        s.test("more people than days", () -> {
            House x = Houses.working(10, 3, 1);
            x.pass(1);
            s.is(0, x.left(0));
        });

        s.says("Throws `IndexOutOfBoundsException` if there is no such order");
        s.outside("of one order, order", 0, 0, Sentences.INDEX, () -> Houses.orders(1), House::left);
        s.outside("of eight orders, order", 0, 7, Sentences.INDEX, () -> Houses.orders(8), House::left);
        s.test("of no orders, order 0", () -> s.refuses(Sentences.INDEX, new House(), x -> x.left(0)));
    }
}
