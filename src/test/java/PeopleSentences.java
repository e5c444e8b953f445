/** Promises 1 to 9: people and papers. */
final class PeopleSentences {
    private final Sentences s;

    PeopleSentences(Sentences sentences) {
        s = sentences;
    }

    void all() {
        newObject();
        admitAnswers();
        admitRefuses();
        courseAnswers();
        courseRefuses();
        offenceAnswers();
        offenceRefuses();
        appealAnswers();
        appealRefuses();
        release();
        isIn();
        regime();
        papers();
    }

    private void newObject() {
        s.section("Promise 1");
        s.says("Begins without people, orders and tools.");
        s.test("there is no person 0", () -> {
            s.refuses(Sentences.INDEX, new House(), x -> x.release(0));
            s.is(0, new House().admit(1, 0));
        });
        s.test("there is no order 0", () -> {
            s.refuses(Sentences.INDEX, new House(), x -> x.left(0));
            s.is(0, new House().addOrder(0, 0, 1, 0));
        });
        for (int kind = 0; kind < 3; kind++) {
            int k = kind;
            s.test("there is no tool of kind " + kind, () -> {
                House x = Houses.people(1);
                x.addOrder(0, k, 1, 0);
                s.is(0, x.toolsOut(k));
                s.refuses(Sentences.STATE, x, h -> h.assign(0, 0));
                s.is(0, x.setTools(k, 20));
            });
        }
        s.test("another object has nothing of it", () -> {
            House x = Houses.working(1, 5, 100);
            House other = new House();
            s.is(1, x.toolsOut(0));
            s.is(0, other.toolsOut(0));
            s.is(0, other.setTools(0, 1));
            s.refuses(Sentences.INDEX, other, h -> h.release(0));
            s.refuses(Sentences.INDEX, other, h -> h.left(0));
        });
    }

    private void admitAnswers() {
        s.section("Promise 2");
        s.says("Admits a person today.");
        s.test("on day 0", () -> s.is(7, admittedOn(0).release(0)));
        s.test("on day 3", () -> s.is(10, admittedOn(3).release(0)));
        s.test("on day 100", () -> s.is(107, admittedOn(100).release(0)));
        s.test("the person is in then, without papers, order and money", () -> {
            House x = admittedOn(3);
            s.is(true, x.isIn(0));
            s.is(0, x.papers(0, false) + x.papers(0, true));
            s.is(-1, x.orderOf(0));
            s.accounts(x, 0, 0, 0, 0, 0);
            s.is(0, x.paidOut(0));
        });

        s.says("`term`: 1 to 2000 days");
        s.test("a term of 1 day", () -> {
            House x = new House();
            s.is(0, x.admit(1, 0));
            s.is(1, x.release(0));
            s.is(1, x.pass(1));
        });
        s.test("a term of 2000 days", () -> {
            House x = new House();
            s.is(0, x.admit(2000, 0));
            s.is(2000, x.release(0));
            for (int hundred = 0; hundred < 19; hundred++) {
                x.pass(100);
            }
            s.is(0, x.pass(99));
            s.is(1, x.pass(1));
        });

        s.says("`skills`: a set of skills: bit s for skill s, 0 to 15");
        for (int skills = 0; skills < 16; skills++) {
            int set = skills;
            s.test("the set " + skills, () -> hasTheSkillsOf(set));
        }

        s.says("Returns number of the person.");
        s.test("the first is 0, and the tenth 9", () -> {
            House x = new House();
            for (int person = 0; person < 10; person++) {
                s.is(person, x.admit(5, 0));
            }
        });
        s.test("the number of one who is released is not given again", () -> {
            House x = Houses.released();
            s.is(2, x.admit(5, 0));
        });
    }

    private static House admittedOn(int day) {
        House x = new House();
        if (day > 0) {
            x.pass(day);
        }
        x.admit(7, 0);
        return x;
    }

    private void hasTheSkillsOf(int set) {
        for (int skill = 0; skill < 4; skill++) {
            House x = new House();
            x.setTools(0, 1);
            x.addOrder(skill, 0, 10, 1);
            s.is(0, x.admit(100, set));
            if ((set >> skill) % 2 == 1) {
                s.is(1, x.assign(0, 0));
            } else {
                s.refuses(Sentences.STATE, x, h -> h.assign(0, 0));
            }
        }
    }

    private void admitRefuses() {
        s.says("Throws `IllegalArgumentException` if term or skills is out of range");
        s.outside("a term of", 1, 2000, Sentences.ARGUMENT, House::new, (x, term) -> x.admit(term, 0));
        s.outside("skills of", 0, 15, Sentences.ARGUMENT, House::new, (x, skills) -> x.admit(1, skills));
        s.test("both", () -> s.refuses(Sentences.ARGUMENT, new House(), x -> x.admit(0, 16)));

        s.says("Throws `IllegalStateException` if there are 10 people, released ones included");
        s.test("9 people leave room for the tenth", () -> s.is(9, Houses.people(9).admit(1, 0)));
        s.test("10 people who are in", () -> s.refuses(Sentences.STATE, Houses.people(10), x -> x.admit(1, 0)));
        s.test("10 people, one of them released", () -> {
            House x = Houses.people(9);
            x.admit(1, 0);
            s.is(1, x.pass(1));
            s.refuses(Sentences.STATE, x, h -> h.admit(1, 0));
        });
        s.test("10 people, all of them released", () -> {
            House x = new House();
            for (int person = 0; person < 10; person++) {
                x.admit(1 + person, 0);
            }
            s.is(10, x.pass(10));
            s.refuses(Sentences.STATE, x, h -> h.admit(1, 0));
        });
    }

    private void courseAnswers() {
        s.section("Promise 3");
        s.says("Enters a course of a person, who has the skill then.");
        for (int skill = 0; skill < 4; skill++) {
            int learned = skill;
            s.test("skill " + skill + " and no other, and nobody else", () -> learnsOnly(learned));
        }
        s.test("the skills that are there stay, that of the course among them", () -> {
            House x = Houses.shop(1, 5, 0);
            x.course(0, 0, 0);
            x.course(0, 3, 0);
            s.is(1, x.assign(0, 0));
        });
        s.test("the person stays on the order", () -> {
            House x = Houses.working(1, 5, 0);
            x.course(0, 1, 1);
            s.is(0, x.orderOf(0));
        });

        s.says("`person`: a person");
        s.test("the first and the last of 10", () -> {
            House x = Houses.people(10);
            s.is(1993, x.course(0, 0, 7));
            s.is(1992, x.course(9, 0, 8));
            s.is(7, x.papers(0, false));
            s.is(8, x.papers(9, false));
            s.is(0, x.papers(8, false));
        });

        s.says("`skill`: 0 to 3");
        s.test("skill 0", () -> s.is(1995, Houses.people(1).course(0, 0, 5)));
        s.test("skill 3", () -> s.is(1995, Houses.people(1).course(0, 3, 5)));

        s.says("`days`: 0 to 100 days that it gains");
        s.test("0 days", () -> courseGains(0));
        s.test("1 day", () -> courseGains(1));
        s.test("100 days", () -> courseGains(100));

        s.says("Returns the release day then.");
        s.test("up to a quarter of the term", () -> {
            House x = new House();
            x.admit(40, 0);
            s.is(31, x.course(0, 0, 9));
            s.is(30, x.course(0, 0, 1));
            s.is(30, x.course(0, 0, 1));
        });
        s.test("it may be today, and the person is in until the next day passes", () -> courseOnDay(6));
        s.test("it may be over, and the person is in until the next day passes", () -> courseOnDay(7));
    }

    private void learnsOnly(int learned) {
        for (int skill = 0; skill < 4; skill++) {
            House x = new House();
            x.setTools(0, 5);
            x.addOrder(skill, 0, 10, 1);
            x.admit(100, 0);
            x.admit(100, 0);
            s.refuses(Sentences.STATE, x, h -> h.assign(0, 0));
            x.course(0, learned, 1);
            if (skill == learned) {
                s.is(1, x.assign(0, 0));
            } else {
                s.refuses(Sentences.STATE, x, h -> h.assign(0, 0));
            }
            s.refuses(Sentences.STATE, x, h -> h.assign(1, 0));
        }
    }

    private void courseGains(int days) {
        House x = Houses.people(1);
        s.is(2000 - days, x.course(0, 0, days));
        s.is(days, x.papers(0, false));
        s.is(2000 - days, x.release(0));
    }

    private void courseOnDay(int today) {
        House x = new House();
        x.admit(8, 0);
        s.is(0, x.pass(today));
        s.is(6, x.course(0, 0, 2));
        s.is(6, x.release(0));
        s.is(true, x.isIn(0));
        s.is(1, x.pass(1));
        s.is(today + 1, x.release(0));
    }

    private void courseRefuses() {
        s.says("Throws `IndexOutOfBoundsException` if there is no such person or skill");
        s.noSuchPerson((x, person) -> x.course(person, 0, 1));
        s.outside("skill", 0, 3, Sentences.INDEX, () -> Houses.unskilled(1), (x, skill) -> x.course(0, skill, 1));

        s.says("Throws `IllegalArgumentException` if days is out of range");
        s.outside("days of", 0, 100, Sentences.ARGUMENT, () -> Houses.unskilled(1), (x, days) -> x.course(0, 0, days));

        s.says("Throws `IllegalStateException` if the person is released");
        s.test("a released person", () -> s.refuses(Sentences.STATE, Houses.released(), x -> x.course(0, 0, 1)));
        s.test("another person is released", () -> s.allows(Houses.released(), x -> x.course(1, 0, 1)));

        s.says("or has 50 papers that are no work, appealed offences included");
        fiftyPapers(x -> x.course(0, 1, 7));
    }

    private void fiftyPapers(Sentences.HouseCall paper) {
        int[] offencesOfFifty = {0, 1, 25, 49, 50};
        for (int offences : offencesOfFifty) {
            int courses = 50 - offences;
            s.test("50 papers, offences " + offences,
                () -> s.refuses(Sentences.STATE, Houses.papers(offences, courses), paper));
            s.test("50 papers, appealed offences " + offences,
                () -> s.refuses(Sentences.STATE, appealed(Houses.papers(offences, courses), offences), paper));
        }
        s.test("49 papers", () -> {
            s.allows(Houses.papers(0, 49), paper);
            s.allows(Houses.papers(49, 0), paper);
            s.allows(appealed(Houses.papers(25, 24), 25), paper);
        });
        s.test("another person has 50 papers", () -> {
            House x = Houses.people(2);
            for (int course = 0; course < 50; course++) {
                x.course(1, 0, 0);
            }
            s.allows(x, paper);
        });
        s.test("papers of work take no room", () -> {
            House x = Houses.working(1, 500, 0);
            x.pass(100);
            x.pass(100);
            s.is(40, x.papers(0, false));
            for (int course = 0; course < 49; course++) {
                x.course(0, 0, 0);
            }
            s.allows(x, paper);
            s.refuses(Sentences.STATE, x, paper);
        });
    }

    private static House appealed(House x, int offences) {
        for (int offence = 0; offence < offences; offence++) {
            x.appeal(0, offence);
        }
        return x;
    }

    private void offenceAnswers() {
        s.section("Promise 4");
        s.says("Enters an offence of a person, who leaves the order.");
        s.test("the person is on none, and the tool is in", () -> {
            House x = Houses.working(2, 50, 10);
            s.is(0, x.offence(0, 0));
            s.is(-1, x.orderOf(0));
            s.is(1, x.toolsOut(0));
            s.is(0, x.orderOf(1));
        });
        s.test("the person does not work on this day", () -> {
            House x = Houses.working(1, 50, 10);
            x.offence(0, 0);
            x.pass(1);
            s.is(50, x.left(0));
            s.accounts(x, 0, 0, 0, 0, 0);
        });
        s.test("a person on none", () -> {
            House x = Houses.shop(1, 50, 10);
            s.is(0, x.offence(0, 0));
            s.is(-1, x.orderOf(0));
            s.is(0, x.toolsOut(0));
        });
        s.test("and can be put on it again", () -> {
            House x = Houses.working(1, 50, 10);
            x.offence(0, 0);
            s.is(1, x.assign(0, 0));
        });

        s.says("`person`: a person");
        s.test("the first and the last of 10", () -> {
            House x = Houses.people(10);
            s.is(0, x.offence(0, 7));
            s.is(0, x.offence(9, 8));
            s.is(7, x.papers(0, true));
            s.is(8, x.papers(9, true));
            s.is(0, x.papers(8, true));
        });

        s.says("`days`: 0 to 100 days that it loses");
        s.test("0 days", () -> offenceLoses(0));
        s.test("1 day", () -> offenceLoses(1));
        s.test("100 days", () -> offenceLoses(100));

        s.says("Returns number of the offence, from 0 for each person.");
        s.test("the first is 0, and the fiftieth 49", () -> {
            House x = Houses.people(1);
            for (int offence = 0; offence < 50; offence++) {
                s.is(offence, x.offence(0, 1));
            }
        });
        s.test("each person's begin with 0", () -> {
            House x = Houses.people(2);
            s.is(0, x.offence(1, 1));
            s.is(1, x.offence(1, 1));
            s.is(0, x.offence(0, 1));
        });
        s.test("courses have no numbers among them, and the appealed keep theirs", () -> {
            House x = Houses.people(1);
            x.course(0, 0, 1);
            s.is(0, x.offence(0, 1));
            x.course(0, 0, 1);
            x.appeal(0, 0);
            s.is(1, x.offence(0, 1));
        });
    }

    private void offenceLoses(int days) {
        House x = Houses.people(1);
        s.is(0, x.offence(0, days));
        s.is(days, x.papers(0, true));
        s.is(2000 + days, x.release(0));
    }

    private void offenceRefuses() {
        s.says("Throws `IndexOutOfBoundsException` if there is no such person");
        s.noSuchPerson((x, person) -> x.offence(person, 1));

        s.says("Throws `IllegalArgumentException` if days is out of range");
        s.outside("on an order, days of", 0, 100, Sentences.ARGUMENT, () -> Houses.working(1, 50, 10),
            (x, days) -> x.offence(0, days));

        s.says("Throws `IllegalStateException` if the person is released");
        s.test("a released person", () -> s.refuses(Sentences.STATE, Houses.released(), x -> x.offence(0, 1)));
        s.test("another person is released", () -> s.allows(Houses.released(), x -> x.offence(1, 1)));

        s.says("or has 50 papers that are no work, appealed offences included");
        fiftyPapers(x -> x.offence(0, 1));
        s.test("50 papers, and the person stays on the order", () -> {
            House x = Houses.working(1, 50, 10);
            for (int course = 0; course < 50; course++) {
                x.course(0, 0, 0);
            }
            s.refuses(Sentences.STATE, x, h -> h.offence(0, 1));
            s.is(0, x.orderOf(0));
        });
    }

    private void appealAnswers() {
        s.section("Promise 5");
        s.says("Appeals an offence of a person.");
        s.test("its days are not lost any more, and the others' are", () -> {
            House x = Houses.people(1);
            x.offence(0, 5);
            x.offence(0, 7);
            s.is(2007, x.appeal(0, 0));
            s.is(7, x.papers(0, true));
            s.is(2000, x.appeal(0, 1));
            s.is(0, x.papers(0, true));
        });
        s.test("it does not put the person back on the order", () -> {
            House x = Houses.working(1, 50, 10);
            x.offence(0, 5);
            x.appeal(0, 0);
            s.is(-1, x.orderOf(0));
        });

        s.says("`person`: a person");
        s.test("the last of 10", () -> {
            House x = Houses.people(10);
            x.offence(0, 5);
            x.offence(9, 5);
            s.is(2000, x.appeal(9, 0));
            s.is(5, x.papers(0, true));
        });

        s.says("`offence`: an offence");
        s.test("the first, and the last of 50", () -> {
            House x = Houses.papers(49, 0);
            x.offence(0, 5);
            s.is(2005, x.appeal(0, 0));
            s.is(2000, x.appeal(0, 49));
        });

        s.says("Returns the release day then, which may be over; the person is released when the next day passes");
        s.test("it is over: the person is in, and released on the next day", () -> appealWhenDueOn(9, 10));
        s.test("it was long ago", () -> appealWhenDueOn(1, 50));
        s.test("it is today", () -> appealWhenDueOn(10, 10));
        s.test("it is tomorrow", () -> appealWhenDueOn(11, 10));
        s.test("it is the day after tomorrow, and not over", () -> {
            House x = new House();
            x.admit(12, 0);
            x.offence(0, 100);
            x.pass(10);
            s.is(12, x.appeal(0, 0));
            s.is(0, x.pass(1));
            s.is(true, x.isIn(0));
            s.is(1, x.pass(1));
            s.is(12, x.release(0));
        });
        s.test("who is over can work on, and is paid for it", () -> {
            House x = Houses.shop(0, 50, 100);
            x.admit(1, 1);
            x.offence(0, 100);
            x.pass(3);
            s.is(1, x.appeal(0, 0));
            s.is(1, x.assign(0, 0));
            s.is(1, x.pass(1));
            s.is(49, x.left(0));
            s.is(50, x.paidOut(0));
        });
    }

    private void appealWhenDueOn(int due, int today) {
        House x = new House();
        x.admit(due, 0);
        x.offence(0, 100);
        s.is(0, x.pass(today));
        s.is(due, x.appeal(0, 0));
        s.is(true, x.isIn(0));
        s.is(due, x.release(0));
        s.is(1, x.pass(1));
        s.is(false, x.isIn(0));
        s.is(today + 1, x.release(0));
    }

    private static House withOffences(int people, int offences) {
        House x = Houses.people(people);
        for (int offence = 0; offence < offences; offence++) {
            x.offence(people - 1, 5);
        }
        return x;
    }

    private void appealRefuses() {
        s.says("Throws `IndexOutOfBoundsException` if there is no such person or offence");
        s.outside("of two people, person", 0, 1, Sentences.INDEX, () -> withOffences(2, 1),
            (x, person) -> x.appeal(person, 0));
        s.outside("of ten people, person", 0, 9, Sentences.INDEX, () -> withOffences(10, 1),
            (x, person) -> x.appeal(person, 0));
        s.outside("of one offence, offence", 0, 0, Sentences.INDEX, () -> withOffences(1, 1),
            (x, offence) -> x.appeal(0, offence));
        s.outside("of fifty offences, offence", 0, 49, Sentences.INDEX, () -> withOffences(1, 50),
            (x, offence) -> x.appeal(0, offence));
        s.test("another's offence", () -> s.refuses(Sentences.INDEX, withOffences(2, 1), x -> x.appeal(0, 0)));
        s.test("a course is no offence", () -> s.refuses(Sentences.INDEX, Houses.papers(0, 1), x -> x.appeal(0, 0)));

        s.says("Throws `IllegalStateException` if the person is released, or the offence was appealed");
        s.test("a released person", () -> {
            House x = new House();
            x.admit(1, 0);
            x.offence(0, 3);
            s.is(1, x.pass(4));
            s.refuses(Sentences.STATE, x, h -> h.appeal(0, 0));
        });
        s.test("the offence was appealed", () -> {
            House x = withOffences(1, 2);
            x.appeal(0, 0);
            s.refuses(Sentences.STATE, x, h -> h.appeal(0, 0));
            s.is(2000, x.appeal(0, 1));
        });
        s.test("both", () -> s.refuses(Sentences.STATE, Houses.released(), x -> x.appeal(0, 0)));
    }

    private void release() {
        s.section("Promise 6");
        s.says("Returns the release day of a person.");
        s.test("after a course, an offence, and work", () -> {
            House x = Houses.working(1, 50, 0);
            s.is(2000, x.release(0));
            x.pass(5);
            s.is(1999, x.release(0));
            x.course(0, 0, 10);
            s.is(1989, x.release(0));
            x.offence(0, 3);
            s.is(1992, x.release(0));
        });
        aPersonThatIsThere(x -> x.release(0), 2000, x -> x.release(9), 1993);

        s.says("Returns the day; that on which the person was released, if so.");
        s.test("on the very day", () -> {
            House x = new House();
            x.admit(5, 0);
            s.is(1, x.pass(50));
            s.is(5, x.release(0));
        });
        s.test("later than the papers tell, if that was over", () -> {
            House x = new House();
            x.admit(5, 0);
            x.offence(0, 50);
            x.pass(20);
            s.is(5, x.appeal(0, 0));
            x.pass(30);
            s.is(21, x.release(0));
        });
        s.test("a paper of the last day's work tells a day earlier", () -> {
            House x = Houses.shop(0, 50, 0);
            x.admit(5, 1);
            x.assign(0, 0);
            s.is(0, x.pass(4));
            s.is(5, x.release(0));
            s.is(1, x.pass(1));
            s.is(5, x.release(0));
        });

        s.says("Throws `IndexOutOfBoundsException` if there is no such person");
        s.noSuchPerson(House::release);
    }

    /** The first of ten people, and the last one, who has a course of 7 days. */
    private void aPersonThatIsThere(Sentences.HouseCall first, long ofFirst, Sentences.HouseCall last, long ofLast) {
        s.says("`person`: a person");
        s.test("the first of 10", () -> s.is(ofFirst, first.on(Houses.people(10))));
        s.test("the last of 10", () -> {
            House x = Houses.people(10);
            x.course(9, 0, 7);
            s.is(ofLast, last.on(x));
        });
    }

    private void isIn() {
        s.section("Promise 7");
        s.says("Returns whether a person is in.");
        s.test("from the admission to the day before the release day", () -> {
            House x = new House();
            x.admit(3, 0);
            s.is(true, x.isIn(0));
            x.pass(2);
            s.is(true, x.isIn(0));
        });
        aPersonThatIsThere(x -> x.isIn(0) ? 1 : 0, 1, x -> x.isIn(9) ? 1 : 0, 1);

        s.says("Returns false if the person is released.");
        s.test("on the release day, and after it", () -> {
            House x = new House();
            x.admit(3, 0);
            x.admit(4, 0);
            x.pass(3);
            s.is(false, x.isIn(0));
            s.is(true, x.isIn(1));
            x.pass(100);
            s.is(false, x.isIn(0));
        });

        s.says("Throws `IndexOutOfBoundsException` if there is no such person");
        s.noSuchPerson((x, person) -> x.isIn(person) ? 1 : 0);
    }

    private void regime() {
        s.section("Promise 8");
        s.says("Returns the regime of a person.");
        s.test("each has an own one", () -> {
            House x = Houses.people(3);
            x.course(0, 0, 0);
            x.offence(2, 0);
            s.is(2, x.regime(0));
            s.is(1, x.regime(1));
            s.is(0, x.regime(2));
        });
        s.test("days that pass leave it", () -> {
            House x = Houses.people(1);
            x.offence(0, 0);
            x.pass(100);
            s.is(0, x.regime(0));
        });
        s.test("the released keep theirs", () -> {
            House x = Houses.people(1);
            x.admit(1, 0);
            x.course(1, 0, 0);
            x.pass(1);
            s.is(2, x.regime(1));
        });
        aPersonThatIsThere(x -> x.regime(0), 1, x -> x.regime(9), 2);

        s.says("Returns 0 to 2.");
        s.test("0 at least", () -> s.is(0, Houses.papers(50, 0).regime(0)));
        s.test("2 at most", () -> s.is(2, Houses.papers(0, 50).regime(0)));

        s.says("Throws `IndexOutOfBoundsException` if there is no such person");
        s.noSuchPerson(House::regime);
    }

    private void papers() {
        s.section("Promise 9");
        s.says("Returns the days that the papers of a person gain, or lose.");
        s.test("of several papers of each sort", () -> {
            House x = somePapers();
            s.is(14, x.papers(0, false));
            s.is(6, x.papers(0, true));
        });
        s.test("without papers", () -> {
            s.is(0, Houses.people(1).papers(0, false));
            s.is(0, Houses.people(1).papers(0, true));
        });
        s.test("of 50 papers of 100 days", () -> {
            House x = Houses.people(2);
            for (int paper = 0; paper < 50; paper++) {
                x.offence(0, 100);
                x.course(1, 0, 100);
            }
            s.is(5000, x.papers(0, true));
            s.is(7000, x.release(0));
            s.is(5000, x.papers(1, false));
            s.is(1500, x.release(1));
        });
        aPersonThatIsThere(x -> x.papers(0, false), 0, x -> x.papers(9, false), 7);

        s.says("`loses`: whether those that are lost are asked for");
        s.test("true", () -> s.is(6, somePapers().papers(0, true)));
        s.test("false", () -> s.is(14, somePapers().papers(0, false)));

        s.says("Returns the sum, appealed offences left aside, and gained ones whether they count or not.");
        s.test("appealed offences left aside", () -> {
            House x = somePapers();
            x.appeal(0, 0);
            s.is(4, x.papers(0, true));
            s.is(14, x.papers(0, false));
            x.appeal(0, 1);
            s.is(0, x.papers(0, true));
        });
        s.test("gained ones beyond a quarter of the term", () -> {
            House x = new House();
            x.admit(8, 0);
            x.course(0, 0, 2);
            s.is(2, x.papers(0, false));
            x.course(0, 0, 1);
            s.is(3, x.papers(0, false));
            s.is(6, x.release(0));
        });
        s.test("those of the released", () -> {
            House x = somePapers();
            for (int hundred = 0; hundred < 20; hundred++) {
                x.pass(100);
            }
            s.is(false, x.isIn(0));
            s.is(14, x.papers(0, false));
            s.is(6, x.papers(0, true));
        });

        s.says("Throws `IndexOutOfBoundsException` if there is no such person");
        s.outside("gained, of two people, person", 0, 1, Sentences.INDEX, () -> Houses.people(2),
            (x, person) -> x.papers(person, false));
        s.noSuchPerson((x, person) -> x.papers(person, true));
    }

    /** Courses of 3 and 10 days, 5 days of work, and offences of 2 and 4 days. */
    private static House somePapers() {
        House x = Houses.working(1, 5, 0);
        x.course(0, 0, 3);
        x.course(0, 1, 10);
        x.pass(5);
        x.offence(0, 2);
        x.offence(0, 4);
        return x;
    }
}
