import java.io.IOException;
import java.nio.file.Files;
import java.nio.file.Path;

/** What it is, and the terms, but for the exceptions. */
final class TermsSentences {
    private static final Path SOURCE = Path.of("src/main/java/ParoleCards.java");
    private static final int PROMISED_CALLS = 512;

    private final Sentences s;

    TermsSentences(Sentences sentences) {
        s = sentences;
    }

    void all() throws IOException {
        whatItIs();
        peopleAndDays();
        papers();
        quarterOfTheTerm();
        releaseDay();
        regimes();
        coursesRaiseTheRegime();
        appealsRaiseTheRegime();
        orders();
        tools();
        work();
        wages();
        finishedOrders();
        releases();
        spans();
        limits();
        offencesOfThirtyDays();
        headings();
    }

    private void whatItIs() {
        s.section("What it is");
        s.says("A house where people stay for a term, with a workshop and a bank.");
        s.test("a stay, with work and money", () -> {
            House x = Houses.shop(0, 2, 100);
            x.admit(3, 1);
            x.assign(0, 0);
            s.is(1, x.pass(3));
            s.is(100, x.paidOut(0));
        });
        s.says("An object is used for at most 512 calls after it has been made");
        s.test("the 512th call", () -> {
            ParoleCards x = new ParoleCards();
            x.admit(2000, 0);
            for (int call = 2; call < PROMISED_CALLS; call++) {
                x.pass(100);
            }
            s.is(2000, x.release(0));
        });
        s.test("the 512th call of a person who is in for all of them", () -> {
            ParoleCards x = new ParoleCards();
            for (int call = 1; call < PROMISED_CALLS; call++) {
                x.pass(100);
            }
            s.is(0, x.admit(2000, 0));
            s.is(53100, x.release(0));
        });

        s.section("Terms");
        s.says("Days are gained by work and courses and lost by offences, which can be appealed");
        s.test("in one stay", () -> {
            House x = Houses.working(1, 5, 0);
            x.pass(5);
            s.is(1999, x.release(0));
            s.is(1997, x.course(0, 0, 2));
            x.offence(0, 4);
            s.is(2001, x.release(0));
            s.is(1997, x.appeal(0, 0));
        });
    }

    private void peopleAndDays() {
        s.says("People are numbered from 0; there are at most 10.");
        s.test("the first is 0, the tenth is 9, and there is no eleventh", () -> {
            s.is(0, new House().admit(1, 0));
            House x = Houses.people(9);
            s.is(9, x.admit(1, 0));
            s.is(true, x.isIn(9));
            s.refuses(Sentences.STATE, x, h -> h.admit(1, 0));
        });

        s.says("Days are numbered from 0; today is day 0 at first.");
        s.test("a term of 1 from the first day ends on day 1", () -> {
            House x = new House();
            x.admit(1, 0);
            s.is(1, x.release(0));
        });
        s.test("the first day's end is day 1", () -> {
            House x = new House();
            x.pass(1);
            x.admit(1, 0);
            s.is(2, x.release(0));
        });

        s.says("A person is in, or released.");
        s.test("in at first, released for good later", () -> {
            House x = new House();
            x.admit(1, 0);
            s.is(true, x.isIn(0));
            x.pass(1);
            s.is(false, x.isIn(0));
            x.pass(1);
            s.is(false, x.isIn(0));
        });
    }

    private void papers() {
        s.says("work, one paper for each 5 days on which the person has worked, which gains 1 day");
        int[] days = {4, 5, 9, 10, 99, 100};
        for (int worked : days) {
            s.test("days of work: " + worked, () -> {
                House x = Houses.working(1, 500, 0);
                x.pass(worked);
                s.is(worked / 5, x.papers(0, false));
                s.is(2000 - worked / 5, x.release(0));
            });
        }
        s.test("days of several orders, with days without work between", () -> {
            House x = Houses.working(1, 2, 0);
            x.addOrder(0, 1, 9, 0);
            x.pass(4);
            s.is(0, x.papers(0, false));
            x.assign(0, 1);
            x.pass(1);
            x.takeOff(0);
            x.pass(10);
            x.assign(0, 1);
            x.pass(1);
            s.is(0, x.papers(0, false));
            x.pass(1);
            s.is(1, x.papers(0, false));
        });
        s.test("a day on which the order was finished by then is not worked", () -> {
            House x = Houses.working(2, 9, 0);
            x.pass(4);
            s.is(1, x.left(0));
            x.pass(1);
            s.is(1, x.papers(0, false));
            s.is(0, x.papers(1, false));
        });
        s.test("who has 50 papers works on, and gets papers of work", () -> {
            House x = Houses.working(1, 500, 0);
            for (int course = 0; course < 50; course++) {
                x.course(0, 0, 0);
            }
            x.pass(5);
            s.is(1, x.papers(0, false));
        });

        s.says("courses, which gain the days told");
        s.test("0 and 100 days", () -> {
            s.is(2000, Houses.people(1).course(0, 0, 0));
            s.is(1900, Houses.people(1).course(0, 0, 100));
        });

        s.says("offences, which lose the days told, unless they are appealed.");
        s.test("two, and one of them appealed", () -> {
            House x = Houses.people(1);
            x.offence(0, 100);
            x.offence(0, 3);
            s.is(2103, x.release(0));
            s.is(2003, x.appeal(0, 0));
        });
    }

    private void quarterOfTheTerm() {
        s.says("The days gained count up to a quarter of the term, rounded down.");
        int[][] termsAndQuarters = {{1, 0}, {3, 0}, {4, 1}, {5, 1}, {7, 1}, {8, 2}, {399, 99}, {400, 100}};
        for (int[] t : termsAndQuarters) {
            s.test("a term of " + t[0], () -> {
                House x = new House();
                x.admit(t[0], 0);
                s.is(t[0] - t[1], x.course(0, 0, t[1]));
                s.is(t[0] - t[1], x.course(0, 0, 1));
                s.is(t[0] - t[1], x.course(0, 0, 100));
            });
        }
        s.test("a term of 2000", () -> {
            House x = Houses.people(1);
            for (int course = 0; course < 4; course++) {
                x.course(0, 0, 100);
            }
            s.is(1501, x.course(0, 0, 99));
            s.is(1500, x.course(0, 0, 1));
            s.is(1500, x.course(0, 0, 1));
        });
        s.test("work and courses together", () -> {
            House x = Houses.shop(0, 500, 0);
            x.admit(40, 1);
            x.assign(0, 0);
            x.pass(5);
            s.is(31, x.course(0, 1, 8));
            x.pass(5);
            s.is(30, x.release(0));
            x.pass(5);
            s.is(30, x.release(0));
            s.is(11, x.papers(0, false));
        });
        s.test("what does not count makes up for no offence", () -> {
            House x = new House();
            x.admit(8, 0);
            s.is(6, x.course(0, 0, 100));
            x.offence(0, 3);
            s.is(9, x.release(0));
        });
    }

    private void releaseDay() {
        s.says("the day of admission, plus the term, less the days gained that count, plus the days lost.");
        s.test("of one admitted on day 6", () -> {
            House x = new House();
            x.pass(6);
            x.admit(50, 0);
            s.is(56, x.release(0));
            s.is(46, x.course(0, 0, 10));
            x.offence(0, 4);
            s.is(50, x.release(0));
            s.is(48, x.course(0, 0, 100));
        });
    }

    private void regimes() {
        s.says("A person has the regime 1 at first, from 0 to 2.");
        s.test("1 at first", () -> s.is(1, Houses.people(1).regime(0)));
        s.test("0 after any number of offences", () -> s.is(0, Houses.papers(3, 0).regime(0)));
        s.test("2 after any number of courses", () -> s.is(2, Houses.papers(0, 3).regime(0)));

        s.says("An offence lowers it by 1, if it is above 0;");
        s.test("an offence at 2", () -> {
            House x = Houses.papers(0, 1);
            x.offence(0, 0);
            s.is(1, x.regime(0));
        });
        s.test("an offence at 1", () -> s.is(0, Houses.papers(1, 0).regime(0)));
        s.test("an offence at 0", () -> s.is(0, Houses.papers(2, 0).regime(0)));
    }

    private void coursesRaiseTheRegime() {
        s.says("each course, and each appeal of an offence that lowered it, raises it by 1, if it is below 2.");
        s.test("a course at 0", () -> s.is(1, Houses.papers(1, 1).regime(0)));
        s.test("a course at 0, after offences that did not lower it", () -> s.is(1, Houses.papers(9, 1).regime(0)));
        s.test("a course at 1", () -> s.is(2, Houses.papers(0, 1).regime(0)));
        s.test("a course at 2", () -> s.is(2, Houses.papers(0, 2).regime(0)));
        s.test("an offence after courses at 2", () -> {
            House x = Houses.papers(0, 9);
            x.offence(0, 0);
            s.is(1, x.regime(0));
        });
    }

    private void appealsRaiseTheRegime() {
        s.says("each appeal of an offence that lowered it, raises it by 1, if it is below 2.");
        s.test("an appeal at 0", () -> {
            House x = Houses.papers(1, 0);
            x.appeal(0, 0);
            s.is(1, x.regime(0));
        });
        s.test("an appeal at 1", () -> {
            House x = Houses.papers(1, 1);
            x.appeal(0, 0);
            s.is(2, x.regime(0));
        });
        s.test("an appeal at 2", () -> {
            House x = Houses.papers(1, 2);
            x.appeal(0, 0);
            s.is(2, x.regime(0));
        });
        s.test("an appeal of an offence that did not lower it, at 0 and at 1", () -> {
            House x = Houses.papers(3, 0);
            x.appeal(0, 1);
            s.is(0, x.regime(0));
            x.course(0, 0, 0);
            x.appeal(0, 2);
            s.is(1, x.regime(0));
            x.appeal(0, 0);
            s.is(2, x.regime(0));
        });
        s.test("an offence that lowered it from 2", () -> {
            House x = Houses.papers(0, 1);
            x.offence(0, 0);
            x.offence(0, 0);
            s.is(0, x.regime(0));
            x.appeal(0, 0);
            s.is(1, x.regime(0));
            x.appeal(0, 1);
            s.is(2, x.regime(0));
        });
    }

    private void orders() {
        s.says("Orders are numbered from 0; there are at most 8.");
        s.test("the first is 0, the eighth is 7, and there is no ninth", () -> {
            s.is(0, new House().addOrder(0, 0, 1, 0));
            House x = Houses.orders(7);
            s.is(7, x.addOrder(0, 0, 3, 0));
            s.is(3, x.left(7));
            s.refuses(Sentences.STATE, x, h -> h.addOrder(0, 0, 1, 0));
        });

        s.says("An order needs a skill, 0 to 3, a kind of tool, 0 to 2, and some days of work, and pays a wage for "
            + "each day of work.");
        for (int skill = 0; skill < 4; skill++) {
            for (int kind = 0; kind < 3; kind++) {
                needs(skill, kind);
            }
        }

        s.says("On an order there is any number of people; a person is on one order at most.");
        s.test("all 10 people", () -> {
            House x = Houses.working(10, 50, 100);
            s.is(10, x.toolsOut(0));
            x.pass(1);
            s.is(40, x.left(0));
        });
        s.test("nobody", () -> s.is(50, Houses.shop(0, 50, 1).left(0)));
        s.test("a second order", () -> {
            House x = Houses.working(1, 50, 1);
            x.addOrder(0, 1, 50, 1);
            s.refuses(Sentences.STATE, x, h -> h.assign(0, 1));
            s.is(0, x.orderOf(0));
            x.takeOff(0);
            s.is(1, x.assign(0, 1));
        });
    }

    private void needs(int skill, int kind) {
        s.test("skill " + skill + " and kind " + kind, () -> {
            House x = new House();
            x.setTools(kind, 2);
            x.addOrder(skill, kind, 3, 10);
            x.admit(50, 15 - (1 << skill));
            x.admit(50, 1 << skill);
            s.refuses(Sentences.STATE, x, h -> h.assign(0, 0));
            s.is(1, x.assign(1, 0));
            s.is(1, x.toolsOut(kind));
            x.pass(1);
            s.is(2, x.left(0));
            s.accounts(x, 1, 3, 2, 3, 2);
        });
    }

    private void tools() {
        s.says("A person who is in and has the skill can be put on an order that is not finished; a tool of its kind, "
            + "which has to be there, is counted out then.");
        s.test("the last tool", () -> {
            House x = Houses.shop(2, 50, 0);
            x.setTools(0, 1);
            s.is(1, x.assign(0, 0));
            s.is(1, x.toolsOut(0));
            s.refuses(Sentences.STATE, x, h -> h.assign(1, 0));
        });
        s.test("tools of the other kinds are no help", () -> {
            House x = Houses.shop(1, 50, 0);
            x.setTools(0, 0);
            s.refuses(Sentences.STATE, x, h -> h.assign(0, 0));
        });
        s.test("an order that needs one day still, and one that is finished", () -> {
            House x = Houses.working(1, 2, 0);
            x.pass(1);
            x.takeOff(0);
            s.is(1, x.assign(0, 0));
            x.pass(1);
            s.refuses(Sentences.STATE, x, h -> h.assign(0, 0));
        });

        s.says("When a person leaves an order, or the order is finished, the tool is counted in again.");
        s.test("taken off", () -> {
            House x = Houses.working(2, 50, 0);
            x.takeOff(1);
            s.is(1, x.toolsOut(0));
        });
        s.test("by an offence", () -> {
            House x = Houses.working(2, 50, 0);
            x.offence(1, 0);
            s.is(1, x.toolsOut(0));
        });
        s.test("released", () -> {
            House x = Houses.working(1, 50, 0);
            x.admit(1, 1);
            x.assign(1, 0);
            s.is(2, x.toolsOut(0));
            s.is(1, x.pass(1));
            s.is(1, x.toolsOut(0));
        });
        s.test("finished, with a tool for each of 10 people", () -> {
            House x = Houses.working(10, 15, 0);
            x.pass(1);
            s.is(10, x.toolsOut(0));
            x.pass(1);
            s.is(0, x.toolsOut(0));
        });
        s.test("the last tool, for the next person", () -> {
            House x = Houses.shop(2, 50, 0);
            x.setTools(0, 1);
            x.assign(0, 0);
            x.takeOff(0);
            s.is(1, x.assign(1, 0));
            x.offence(1, 0);
            s.is(1, x.assign(0, 0));
        });
    }

    private void work() {
        s.says("First, by rising people, each person who is on an order works, if the order is not finished by then: "
            + "the order needs one day of work less");
        s.test("an order's last day of work", () -> {
            House x = Houses.working(1, 2, 100);
            x.pass(1);
            s.is(1, x.left(0));
            s.is(0, x.orderOf(0));
            x.pass(1);
            s.is(0, x.left(0));
            s.accounts(x, 0, 60, 40, 60, 40);
            x.pass(1);
            s.accounts(x, 0, 60, 40, 60, 40);
        });
        s.test("two people on the last day: the lower one works", () -> {
            House x = Houses.working(2, 1, 100);
            x.pass(1);
            s.accounts(x, 0, 30, 20, 30, 20);
            s.accounts(x, 1, 0, 0, 0, 0);
            s.is(0, x.left(0));
        });
        s.test("two people on the last day: the lower one works, put on it as the second too", () -> {
            House x = Houses.shop(2, 1, 100);
            x.assign(1, 0);
            x.assign(0, 0);
            x.pass(1);
            s.accounts(x, 0, 30, 20, 30, 20);
            s.accounts(x, 1, 0, 0, 0, 0);
        });
        s.test("ten people on the last two days", () -> {
            House x = Houses.working(10, 12, 100);
            x.pass(2);
            s.accounts(x, 0, 60, 40, 60, 40);
            s.accounts(x, 1, 60, 40, 60, 40);
            s.accounts(x, 2, 30, 20, 30, 20);
            s.accounts(x, 9, 30, 20, 30, 20);
        });
        s.test("more days pass than there is work", () -> {
            House x = Houses.working(1, 3, 100);
            x.pass(100);
            s.is(0, x.left(0));
            s.accounts(x, 0, 90, 60, 90, 60);
        });
        s.test("each works on the own order", () -> {
            House x = Houses.shop(2, 1, 100);
            x.addOrder(0, 0, 1, 10);
            x.assign(0, 1);
            x.assign(1, 0);
            x.pass(1);
            s.accounts(x, 0, 3, 2, 3, 2);
            s.accounts(x, 1, 30, 20, 30, 20);
        });
    }

    private void wages() {
        s.says("the wage is parted: 30 hundredths for victims, 20 for the family, 30 for saving, each rounded down, "
            + "and the rest for the canteen.");
        int[][] parts = {{0, 0, 0, 0, 0}, {1, 0, 0, 0, 1}, {3, 0, 0, 0, 3}, {4, 1, 0, 1, 2}, {5, 1, 1, 1, 2},
            {6, 1, 1, 1, 3}, {7, 2, 1, 2, 2}, {9, 2, 1, 2, 4}, {10, 3, 2, 3, 2}, {99, 29, 19, 29, 22},
            {100, 30, 20, 30, 20}, {999, 299, 199, 299, 202}, {1000, 300, 200, 300, 200}};
        for (int[] part : parts) {
            s.test("a wage of " + part[0], () -> {
                House x = Houses.working(1, 500, part[0]);
                x.pass(1);
                s.accounts(x, 0, part[1], part[2], part[3], part[4]);
                x.pass(6);
                s.accounts(x, 0, 7 * part[1], 7 * part[2], 7 * part[3], 7 * part[4]);
            });
        }
        s.test("1500 days for 1000 each", () -> {
            House x = Houses.shop(1, 500, 1000);
            for (int order = 0; order < 3; order++) {
                x.assign(0, order);
                for (int hundred = 0; hundred < 5; hundred++) {
                    x.pass(100);
                }
                x.addOrder(0, 0, 500, 1000);
            }
            s.accounts(x, 0, 450000, 300000, 450000, 300000);
        });
    }

    private void finishedOrders() {
        s.says("Then all people leave orders that are finished.");
        s.test("those too who did not work on the last day", () -> {
            House x = Houses.working(3, 1, 100);
            x.pass(1);
            for (int person = 0; person < 3; person++) {
                s.is(-1, x.orderOf(person));
            }
            s.is(0, x.toolsOut(0));
        });
        s.test("and not those of other orders", () -> {
            House x = Houses.working(1, 1, 100);
            x.addOrder(0, 1, 2, 100);
            x.admit(50, 1);
            x.assign(1, 1);
            x.pass(1);
            s.is(-1, x.orderOf(0));
            s.is(1, x.orderOf(1));
            s.is(1, x.toolsOut(1));
        });
        s.test("nor those of an order with one day left", () -> {
            House x = Houses.working(2, 3, 100);
            x.pass(1);
            s.is(1, x.left(0));
            s.is(0, x.orderOf(0));
            s.is(0, x.orderOf(1));
        });
    }

    private void releases() {
        s.says("Then today grows by 1; and, by rising people, those who are in and whose release day is today or "
            + "earlier are released: they leave their orders, and are paid out saving and canteen, which are 0 then.");
        s.test("the release day is today, and tomorrow", () -> {
            House x = new House();
            x.admit(5, 0);
            x.admit(6, 0);
            s.is(0, x.pass(4));
            s.is(1, x.pass(1));
            s.is(false, x.isIn(0));
            s.is(true, x.isIn(1));
        });
        s.test("the release day is earlier", () -> {
            House x = new House();
            x.admit(5, 0);
            x.offence(0, 100);
            x.pass(9);
            x.appeal(0, 0);
            s.is(1, x.pass(1));
            s.is(10, x.release(0));
        });
        s.test("nobody is released but by a day that passes", () -> {
            House x = new House();
            x.admit(8, 0);
            x.pass(7);
            s.is(6, x.course(0, 0, 100));
            s.is(true, x.isIn(0));
            s.is(50, x.limit(0));
            s.is(0, x.offence(0, 100));
            s.is(0, x.pass(1));
            s.is(106, x.release(0));
        });
        s.test("the last day is worked and paid", () -> {
            House x = Houses.shop(0, 50, 100);
            x.admit(1, 1);
            x.assign(0, 0);
            s.is(1, x.pass(1));
            s.is(49, x.left(0));
            s.is(-1, x.orderOf(0));
            s.is(0, x.toolsOut(0));
            s.is(50, x.paidOut(0));
            s.accounts(x, 0, 30, 20, 0, 0);
        });
        s.test("by the paper of the last day's work", () -> {
            House x = Houses.shop(0, 50, 0);
            x.admit(6, 1);
            x.assign(0, 0);
            s.is(0, x.pass(4));
            s.is(1, x.pass(1));
            s.is(5, x.release(0));
        });
        s.test("the released work no more, and are paid out once", () -> {
            House x = Houses.released();
            x.pass(100);
            s.is(499, x.left(0));
            s.is(500, x.paidOut(0));
            s.is(1, x.release(0));
        });
        s.test("on the day on which the order is finished", () -> {
            House x = Houses.shop(0, 1, 100);
            x.admit(1, 1);
            x.assign(0, 0);
            s.is(1, x.pass(1));
            s.is(0, x.toolsOut(0));
            s.is(50, x.paidOut(0));
        });
        s.test("what was lost later does not bring the released back", () -> {
            House x = new House();
            x.admit(1, 0);
            x.pass(1);
            s.refuses(Sentences.STATE, x, h -> h.offence(0, 100));
            s.is(false, x.isIn(0));
        });
    }

    /** Person 0 earns 1000 a day from day 0 on; the day is today. */
    private static House earningOn(int today) {
        House x = Houses.working(1, 500, 1000);
        x.pass(today);
        return x;
    }

    private void spans() {
        s.says("in each span of 7 days (days 0 to 6, 7 to 13, and so on)");
        int[] lastDays = {6, 13, 20, 97};
        for (int last : lastDays) {
            s.test("days " + last + " and " + (last + 1), () -> {
                House x = earningOn(last);
                x.buy(0, 30);
                s.is(0, x.limit(0));
                s.refuses(Sentences.STATE, x, h -> h.buy(0, 1));
                x.pass(1);
                s.is(30, x.limit(0));
                s.allows(x, h -> h.buy(0, 30));
            });
            s.test("days " + (last - 5) + " to " + last + " are of one span", () -> {
                House x = earningOn(last - 5);
                x.buy(0, 10);
                s.is(0, x.pass(5));
                s.is(20, x.limit(0));
                s.refuses(Sentences.STATE, x, h -> h.buy(0, 21));
                s.allows(x, h -> h.buy(0, 20));
            });
        }
        s.test("day 0 is of the first span", () -> {
            House x = Houses.people(1);
            s.is(30, x.limit(0));
            x.pass(7);
            s.is(30, x.limit(0));
        });
        s.test("the spans are the same for those admitted later", () -> {
            House x = Houses.shop(0, 500, 1000);
            x.pass(5);
            x.admit(100, 1);
            x.assign(0, 0);
            x.pass(1);
            x.buy(0, 30);
            s.is(0, x.limit(0));
            x.pass(1);
            s.is(30, x.limit(0));
        });
        s.test("what is left over in a span is not kept", () -> {
            House x = earningOn(6);
            x.buy(0, 1);
            x.pass(1);
            s.is(30, x.limit(0));
            x.pass(70);
            s.is(30, x.limit(0));
        });
        s.test("each person has a limit of the own", () -> {
            House x = Houses.working(2, 500, 1000);
            x.pass(1);
            x.buy(0, 30);
            s.is(30, x.limit(1));
        });
    }

    private void limits() {
        s.says("20 times the regime plus 10, less 5 for each offence");
        s.test("regime 0 without an offence that counts", () -> {
            House x = Houses.papers(1, 0);
            x.pass(30);
            s.is(10, x.limit(0));
        });
        s.test("regime 1", () -> s.is(30, Houses.people(1).limit(0)));
        s.test("regime 2", () -> s.is(50, Houses.papers(0, 1).limit(0)));
        s.test("regime 0 and one offence", () -> s.is(5, Houses.papers(1, 0).limit(0)));
        s.test("regime 1 and one offence", () -> s.is(25, Houses.papers(1, 1).limit(0)));
        s.test("regime 2 and nine offences", () -> s.is(5, Houses.papers(9, 2).limit(0)));

        s.says("that was not appealed, but 0 at least.");
        s.test("an appealed offence", () -> {
            House x = Houses.papers(2, 0);
            s.is(0, x.limit(0));
            x.appeal(0, 1);
            s.is(5, x.limit(0));
            x.appeal(0, 0);
            s.is(30, x.limit(0));
        });
        s.test("regime 0 and two offences, just 0", () -> s.is(0, Houses.papers(2, 0).limit(0)));
        s.test("regime 0 and three offences", () -> s.is(0, Houses.papers(3, 0).limit(0)));
        s.test("regime 2 and ten offences, just 0", () -> s.is(0, Houses.papers(10, 2).limit(0)));
        s.test("regime 2 and eleven offences", () -> s.is(0, Houses.papers(11, 2).limit(0)));
        s.test("days that an offence loses do not matter", () -> {
            House x = Houses.people(1);
            x.offence(0, 100);
            s.is(5, x.limit(0));
        });
    }

    private void offencesOfThirtyDays() {
        s.says("of the last 30 days (of a day that is at most 29 days ago)");
        int[] days = {0, 3, 40};
        for (int day : days) {
            s.test("an offence of day " + day + " is 29 and 30 days ago", () -> {
                House x = Houses.people(1);
                if (day > 0) {
                    x.pass(day);
                }
                x.offence(0, 0);
                x.pass(29);
                s.is(5, x.limit(0));
                x.pass(1);
                s.is(10, x.limit(0));
            });
        }
        s.test("two offences, one of which is 30 days ago", () -> {
            House x = Houses.papers(1, 1);
            x.pass(1);
            x.offence(0, 0);
            x.course(0, 0, 0);
            s.is(20, x.limit(0));
            x.pass(29);
            s.is(25, x.limit(0));
            x.pass(1);
            s.is(30, x.limit(0));
        });
        s.test("the day of the appeal does not matter", () -> {
            House x = Houses.people(1);
            x.offence(0, 0);
            x.pass(28);
            x.appeal(0, 0);
            s.is(30, x.limit(0));
        });
    }

    private void headings() throws IOException {
        String source = Files.readString(SOURCE);
        heads(source, "---- people and papers", "admit", "course", "offence", "appeal", "release", "isIn", "regime",
            "papers");
        heads(source, "---- the workshop", "setTools", "toolsOut", "addOrder", "assign", "takeOff", "orderOf", "left");
        heads(source, "---- the bank", "account", "buy", "limit", "paidOut", "pass");
    }

    /** The calls stand behind the heading, and ahead of the next one. */
    private void heads(String source, String heading, String... calls) {
        s.says("Ahead of the calls `" + String.join("`, `", calls) + "` the interface says: " + heading + ".");
        s.test("in the source", () -> {
            int from = source.indexOf("// " + heading + "\n");
            int to = source.indexOf("// ----", from + 1);
            s.is(true, from >= 0);
            for (String call : calls) {
                int at = source.indexOf(" " + call + "(", source.indexOf("public", from));
                s.is(true, from < at && at < to);
            }
        });
    }
}
