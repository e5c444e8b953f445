/** Houses that many tests begin with. */
final class Houses {
    static final int LONG_TERM = 2000;

    private Houses() {
    }

    /** People with all skills and a long term; no tools and no orders. */
    static House people(int count) {
        House x = new House();
        for (int person = 0; person < count; person++) {
            x.admit(LONG_TERM, 15);
        }
        return x;
    }

    /** People as above, 20 tools of each kind, and the order 0 of skill 0 and kind 0 with this work and wage. */
    static House shop(int people, int work, int wage) {
        House x = people(people);
        for (int kind = 0; kind < 3; kind++) {
            x.setTools(kind, 20);
        }
        x.addOrder(0, 0, work, wage);
        return x;
    }

    /** As above, and all people are on the order. */
    static House working(int people, int work, int wage) {
        House x = shop(people, work, wage);
        for (int person = 0; person < people; person++) {
            x.assign(person, 0);
        }
        return x;
    }

    /** As the shop with one person, who earned 200 for the canteen, and is taken off the order on day 1. */
    static House earned() {
        House x = working(1, 500, 1000);
        x.pass(1);
        x.takeOff(0);
        return x;
    }

    /** Person 0 is released, after a day of work for 1000 and with an offence; person 1 is in. The day is 1. */
    static House released() {
        House x = shop(0, 500, 1000);
        x.admit(1, 15);
        x.admit(LONG_TERM, 15);
        x.offence(0, 100);
        x.appeal(0, 0);
        x.assign(0, 0);
        x.pass(1);
        return x;
    }

    /** People with a long term and no skill. */
    static House unskilled(int count) {
        House x = new House();
        for (int person = 0; person < count; person++) {
            x.admit(LONG_TERM, 0);
        }
        return x;
    }

    /** Person 0, who had no skill, with so many offences and then so many courses in skill 0, all of 0 days. */
    static House papers(int offences, int courses) {
        House x = unskilled(1);
        for (int offence = 0; offence < offences; offence++) {
            x.offence(0, 0);
        }
        for (int course = 0; course < courses; course++) {
            x.course(0, 0, 0);
        }
        return x;
    }

    /** So many orders, that want skill 0 and a tool of kind 0. */
    static House orders(int count) {
        House x = people(1);
        for (int order = 0; order < count; order++) {
            x.addOrder(0, 0, 1 + order, 1);
        }
        return x;
    }
}
