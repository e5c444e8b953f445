/** A house where people stay for a term, with a workshop and a bank. */
public final class ParoleCards {
    private static final int MOST_PEOPLE = 10;
    private static final int MOST_ORDERS = 8;
    private static final int MOST_PAPERS = 50;
    private static final int MOST_TOOLS = 20;
    private static final int TOOL_KINDS = 3;
    private static final int SKILLS = 4;

    private static final int LONGEST_TERM = 2000;
    private static final int MOST_PAPER_DAYS = 100;
    private static final int MOST_WORK = 500;
    private static final int HIGHEST_WAGE = 1000;
    private static final int DEAREST_BUY = 1000;
    private static final int LONGEST_PASS = 100;

    private static final int HIGHEST_REGIME = 2;
    private static final int WORKED_DAYS_A_PAPER = 5;
    private static final int SPAN_DAYS = 7;
    private static final int OFFENCE_COUNTS_DAYS = 30;

    private static final int VICTIMS = 0;
    private static final int FAMILY = 1;
    private static final int SAVING = 2;
    private static final int CANTEEN = 3;
    private static final int ACCOUNTS = 4;

    /** The tools of one kind. */
    private static final class ToolKind {
        int count;
        int countedOut;
    }

    /** Work for people with a skill, each with a tool. */
    private static final class Order {
        final int number;
        final int skill;
        final ToolKind tools;
        final int wage;
        int workLeft;
        int peopleOnIt;

        Order(int number, int skill, ToolKind tools, int work, int wage) {
            this.number = number;
            this.skill = skill;
            this.tools = tools;
            this.workLeft = work;
            this.wage = wage;
        }

        boolean isFinished() {
            return workLeft <= 0;
        }

        boolean hasFreeTool() {
            return tools.countedOut < tools.count;
        }
    }

    /** A paper that loses days, until it is appealed. */
    private static final class Offence {
        final int day;
        final int days;
        final boolean loweredRegime;
        boolean appealed;

        Offence(int day, int days, boolean loweredRegime) {
            this.day = day;
            this.days = days;
            this.loweredRegime = loweredRegime;
        }

        boolean lowersLimitOn(int today) {
            return !appealed && today - day < OFFENCE_COUNTS_DAYS;
        }
    }

    /** What a person earns and spends. */
    private static final class Purse {
        final int[] accounts = new int[ACCOUNTS];
        int lastSpan;
        int boughtInLastSpan;
        int paidOutSum;

        void partWage(int wage) {
            int victims = wage * 30 / 100;
            int family = wage * 20 / 100;
            int saving = wage * 30 / 100;
            accounts[VICTIMS] += victims;
            accounts[FAMILY] += family;
            accounts[SAVING] += saving;
            accounts[CANTEEN] += wage - victims - family - saving;
        }

        int boughtInSpan(int span) {
            return span == lastSpan ? boughtInLastSpan : 0;
        }

        void spend(int amount, int span) {
            boughtInLastSpan = boughtInSpan(span) + amount;
            lastSpan = span;
            accounts[CANTEEN] -= amount;
        }

        void payOut() {
            paidOutSum = accounts[SAVING] + accounts[CANTEEN];
            accounts[SAVING] = 0;
            accounts[CANTEEN] = 0;
        }
    }

    /** Somebody who was admitted, in or released. */
    private static final class Person {
        final int admittedOn;
        final int term;
        int skills;
        int regimeNow = 1;
        int workedDays;
        int courseCount;
        int courseDays;
        final Offence[] offences = new Offence[MOST_PAPERS];
        int offenceCount;
        int lostDays;
        Order order;
        final Purse purse = new Purse();
        boolean released;
        int releasedOn;

        Person(int admittedOn, int term, int skills) {
            this.admittedOn = admittedOn;
            this.term = term;
            this.skills = skills;
        }

        int gainedDays() {
            return workedDays / WORKED_DAYS_A_PAPER + courseDays;
        }

        int releaseDay() {
            if (released) {
                return releasedOn;
            }
            return admittedOn + term - Math.min(gainedDays(), term / 4) + lostDays;
        }

        boolean hasSkill(int skill) {
            return (skills & (1 << skill)) != 0;
        }

        boolean hasRoomForPaper() {
            return courseCount + offenceCount < MOST_PAPERS;
        }

        void raiseRegime() {
            regimeNow = Math.min(regimeNow + 1, HIGHEST_REGIME);
        }

        void enterCourse(int skill, int days) {
            if (!hasRoomForPaper()) {
                throw new IllegalStateException("the person has no room for another paper");
            }
            skills |= 1 << skill;
            courseCount++;
            courseDays += days;
            raiseRegime();
        }

        int enterOffence(int today, int days) {
            int number = offenceCount;
            if (!hasRoomForPaper() || number < 0 || number >= offences.length) {
                throw new IllegalStateException("the person has no room for another paper");
            }
            boolean lowers = regimeNow > 0;
            if (lowers) {
                regimeNow--;
            }
            offences[number] = new Offence(today, days, lowers);
            offenceCount++;
            lostDays += days;
            leaveOrder();
            return number;
        }

        void appealOffence(Offence offence) {
            offence.appealed = true;
            lostDays -= offence.days;
            if (offence.loweredRegime) {
                raiseRegime();
            }
        }

        void joinOrder(Order joined) {
            order = joined;
            joined.peopleOnIt++;
            joined.tools.countedOut++;
        }

        void leaveOrder() {
            Order old = order;
            if (old != null) {
                old.peopleOnIt--;
                old.tools.countedOut--;
                order = null;
            }
        }

        void leaveFinishedOrder() {
            Order mine = order;
            if (mine != null && mine.isFinished()) {
                leaveOrder();
            }
        }

        void workOneDay() {
            Order mine = order;
            if (mine != null && !mine.isFinished()) {
                mine.workLeft--;
                workedDays++;
                purse.partWage(mine.wage);
            }
        }

        int limitOfSpan(int today) {
            int limit = 20 * regimeNow + 10;
            for (Offence offence : offences) {
                if (offence != null && offence.lowersLimitOn(today)) {
                    limit -= 5;
                }
            }
            return Math.max(limit, 0);
        }

        int mayStillBuy(int today) {
            if (released) {
                return 0;
            }
            return Math.max(limitOfSpan(today) - purse.boughtInSpan(today / SPAN_DAYS), 0);
        }

        boolean isDue(int today) {
            return !released && releaseDay() <= today;
        }

        void letGo(int today) {
            leaveOrder();
            purse.payOut();
            releasedOn = today;
            released = true;
        }
    }

    private final Person[] people = new Person[MOST_PEOPLE];
    private final Order[] orders = new Order[MOST_ORDERS];
    private final ToolKind[] toolKinds = new ToolKind[TOOL_KINDS];
    private int personCount;
    private int orderCount;
    private int today;

    public ParoleCards() {
        for (int kind = 0; kind < toolKinds.length; kind++) {
            toolKinds[kind] = new ToolKind();
        }
    }

    // ---- people and papers

    public int admit(int term, int skills) throws IllegalArgumentException, IllegalStateException {
        checkRange(term, 1, LONGEST_TERM);
        checkRange(skills, 0, (1 << SKILLS) - 1);
        int number = personCount;
        if (number < 0 || number >= people.length) {
            throw new IllegalStateException("the house is full");
        }
        people[number] = new Person(today, term, skills);
        personCount++;
        return number;
    }

    public int course(int person, int skill, int days)
            throws IndexOutOfBoundsException, IllegalArgumentException, IllegalStateException {
        Person found = findPerson(person);
        checkSkill(skill);
        checkRange(days, 0, MOST_PAPER_DAYS);
        checkIn(found);
        found.enterCourse(skill, days);
        return found.releaseDay();
    }

    public int offence(int person, int days)
            throws IndexOutOfBoundsException, IllegalArgumentException, IllegalStateException {
        Person found = findPerson(person);
        checkRange(days, 0, MOST_PAPER_DAYS);
        checkIn(found);
        return found.enterOffence(today, days);
    }

    public int appeal(int person, int offence) throws IndexOutOfBoundsException, IllegalStateException {
        Person found = findPerson(person);
        Offence appealed = findOffence(found, offence);
        checkIn(found);
        if (appealed.appealed) {
            throw new IllegalStateException("the offence was appealed");
        }
        found.appealOffence(appealed);
        return found.releaseDay();
    }

    public int release(int person) throws IndexOutOfBoundsException {
        return findPerson(person).releaseDay();
    }

    public boolean isIn(int person) throws IndexOutOfBoundsException {
        return !findPerson(person).released;
    }

    public int regime(int person) throws IndexOutOfBoundsException {
        return findPerson(person).regimeNow;
    }

    public int papers(int person, boolean loses) throws IndexOutOfBoundsException {
        Person found = findPerson(person);
        return loses ? found.lostDays : found.gainedDays();
    }

    // ---- the workshop

    public int setTools(int kind, int count)
            throws IndexOutOfBoundsException, IllegalArgumentException, IllegalStateException {
        ToolKind tools = findTools(kind);
        checkRange(count, 0, MOST_TOOLS);
        if (tools.countedOut > count) {
            throw new IllegalStateException("more tools are counted out");
        }
        int before = tools.count;
        tools.count = count;
        return before;
    }

    public int toolsOut(int kind) throws IndexOutOfBoundsException {
        return findTools(kind).countedOut;
    }

    public int addOrder(int skill, int kind, int work, int wage)
            throws IndexOutOfBoundsException, IllegalArgumentException, IllegalStateException {
        checkSkill(skill);
        ToolKind tools = findTools(kind);
        checkRange(work, 1, MOST_WORK);
        checkRange(wage, 0, HIGHEST_WAGE);
        int number = orderCount;
        if (number < 0 || number >= orders.length) {
            throw new IllegalStateException("there is no room for another order");
        }
        orders[number] = new Order(number, skill, tools, work, wage);
        orderCount++;
        return number;
    }

    public int assign(int person, int order) throws IndexOutOfBoundsException, IllegalStateException {
        Person found = findPerson(person);
        Order joined = findOrder(order);
        checkIn(found);
        if (found.order != null) {
            throw new IllegalStateException("the person is on an order");
        }
        if (!found.hasSkill(joined.skill)) {
            throw new IllegalStateException("the person has not the skill");
        }
        if (joined.isFinished() || !joined.hasFreeTool()) {
            throw new IllegalStateException("the order takes nobody now");
        }
        found.joinOrder(joined);
        return joined.peopleOnIt;
    }

    public int takeOff(int person) throws IndexOutOfBoundsException, IllegalStateException {
        Person found = findPerson(person);
        Order old = found.order;
        if (old == null) {
            throw new IllegalStateException("the person is on no order");
        }
        found.leaveOrder();
        return old.number;
    }

    public int orderOf(int person) throws IndexOutOfBoundsException {
        Order mine = findPerson(person).order;
        return mine == null ? -1 : mine.number;
    }

    public int left(int order) throws IndexOutOfBoundsException {
        return findOrder(order).workLeft;
    }

    // ---- the bank

    public int account(int person, int account) throws IndexOutOfBoundsException {
        int[] accounts = findPerson(person).purse.accounts;
        if (account < 0 || account >= accounts.length) {
            throw new IndexOutOfBoundsException("no such account");
        }
        return accounts[account];
    }

    public int buy(int person, int amount)
            throws IndexOutOfBoundsException, IllegalArgumentException, IllegalStateException {
        Person found = findPerson(person);
        checkRange(amount, 1, DEAREST_BUY);
        checkIn(found);
        Purse purse = found.purse;
        if (purse.accounts[CANTEEN] < amount) {
            throw new IllegalStateException("the account has less");
        }
        if (found.mayStillBuy(today) < amount) {
            throw new IllegalStateException("it would be more than the limit");
        }
        purse.spend(amount, today / SPAN_DAYS);
        return purse.accounts[CANTEEN];
    }

    public int limit(int person) throws IndexOutOfBoundsException {
        return findPerson(person).mayStillBuy(today);
    }

    public int paidOut(int person) throws IndexOutOfBoundsException {
        return findPerson(person).purse.paidOutSum;
    }

    public int pass(int days) throws IllegalArgumentException {
        checkRange(days, 1, LONGEST_PASS);
        int released = 0;
        for (int day = 0; day < days; day++) {
            workInTheShop();
            today++;
            released += letGoThoseDue();
        }
        return released;
    }

    // ---- the passing of a day

    /** People leave only after all have worked: a finished order keeps its tools until the day's work is over. */
    private void workInTheShop() {
        for (Person person : people) {
            if (person != null) {
                person.workOneDay();
            }
        }
        for (Person person : people) {
            if (person != null) {
                person.leaveFinishedOrder();
            }
        }
    }

    private int letGoThoseDue() {
        int released = 0;
        for (Person person : people) {
            if (person != null && person.isDue(today)) {
                person.letGo(today);
                released++;
            }
        }
        return released;
    }

    // ---- what a call asks for

    private Person findPerson(int number) {
        if (number < 0 || number >= people.length) {
            throw new IndexOutOfBoundsException("no such person");
        }
        Person found = people[number];
        if (found == null) {
            throw new IndexOutOfBoundsException("no such person");
        }
        return found;
    }

    private static Offence findOffence(Person person, int number) {
        if (number < 0 || number >= person.offences.length) {
            throw new IndexOutOfBoundsException("no such offence");
        }
        Offence found = person.offences[number];
        if (found == null) {
            throw new IndexOutOfBoundsException("no such offence");
        }
        return found;
    }

    private Order findOrder(int number) {
        if (number < 0 || number >= orders.length) {
            throw new IndexOutOfBoundsException("no such order");
        }
        Order found = orders[number];
        if (found == null) {
            throw new IndexOutOfBoundsException("no such order");
        }
        return found;
    }

    private ToolKind findTools(int kind) {
        if (kind < 0 || kind >= toolKinds.length) {
            throw new IndexOutOfBoundsException("no such kind of tool");
        }
        ToolKind found = toolKinds[kind];
        if (found == null) {
            throw new IndexOutOfBoundsException("no such kind of tool");
        }
        return found;
    }

    private static void checkSkill(int skill) {
        if (skill < 0 || skill >= SKILLS) {
            throw new IndexOutOfBoundsException("no such skill");
        }
    }

    private static void checkRange(int value, int least, int most) {
        if (value < least || value > most) {
            throw new IllegalArgumentException("an argument is out of range");
        }
    }

    private static void checkIn(Person person) {
        if (person.released) {
            throw new IllegalStateException("the person is released");
        }
    }
}
