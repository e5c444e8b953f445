import java.util.ArrayList;
import java.util.List;

/**
 * The document's promises once more, for comparison only: it keeps what happened as lists,
 * and adds everything up anew for each question.
 */
final class PlainHouse implements Face {
    private static final class Job {
        int skill;
        int kind;
        int work;
        int wage;
    }

    private static final class Paper {
        boolean loses;
        int days;
        int enteredOn;
        boolean appealed;
        boolean lowered;
    }

    private static final class Purchase {
        int day;
        int amount;
    }

    private static final class Guest {
        int admittedOn;
        int term;
        boolean[] skills = new boolean[4];
        List<Paper> papers = new ArrayList<>();
        List<Integer> regimeSteps = new ArrayList<>();
        List<Job> worked = new ArrayList<>();
        List<Purchase> purchases = new ArrayList<>();
        Job job;
        int outOn = -1;

        int regime() {
            int regime = 1;
            for (int step : regimeSteps) {
                regime = Math.max(0, Math.min(2, regime + step));
            }
            return regime;
        }

        List<Paper> offences() {
            List<Paper> offences = new ArrayList<>();
            for (Paper paper : papers) {
                if (paper.loses) {
                    offences.add(paper);
                }
            }
            return offences;
        }

        int days(boolean loses) {
            int sum = loses ? 0 : worked.size() / 5;
            for (Paper paper : papers) {
                if (paper.loses == loses && !paper.appealed) {
                    sum += paper.days;
                }
            }
            return sum;
        }

        int dueOn() {
            int most = term / 4;
            int gained = days(false) > most ? most : days(false);
            return admittedOn + term - gained + days(true);
        }

        int earned(int account) {
            int sum = 0;
            for (Job job : worked) {
                int victims = (int) Math.floor(job.wage * 3 / 10.0);
                int family = (int) Math.floor(job.wage * 2 / 10.0);
                int[] parts = {victims, family, victims, job.wage - 2 * victims - family};
                sum += parts[account];
            }
            return sum;
        }

        int spent() {
            int sum = 0;
            for (Purchase purchase : purchases) {
                sum += purchase.amount;
            }
            return sum;
        }

        int balance(int account) {
            return account == 3 ? earned(3) - spent() : earned(account);
        }
    }

    private final List<Guest> guests = new ArrayList<>();
    private final List<Job> jobs = new ArrayList<>();
    private final int[] tools = new int[3];
    private int today = 0;

    private static void index(boolean right) {
        if (!right) {
            throw new IndexOutOfBoundsException();
        }
    }

    private static void argument(boolean right) {
        if (!right) {
            throw new IllegalArgumentException();
        }
    }

    private static void state(boolean right) {
        if (!right) {
            throw new IllegalStateException();
        }
    }

    private static boolean in(int value, int least, int most) {
        return least <= value && value <= most;
    }

    private Guest guest(int person) {
        index(in(person, 0, guests.size() - 1));
        return guests.get(person);
    }

    private Job job(int order) {
        index(in(order, 0, jobs.size() - 1));
        return jobs.get(order);
    }

    private int workLeft(Job job) {
        int left = job.work;
        for (Guest guest : guests) {
            for (Job worked : guest.worked) {
                if (worked == job) {
                    left--;
                }
            }
        }
        return left;
    }

    private int outOf(int kind) {
        int out = 0;
        for (Guest guest : guests) {
            if (guest.job != null && guest.job.kind == kind) {
                out++;
            }
        }
        return out;
    }

    public int admit(int term, int skills) {
        argument(in(term, 1, 2000) && in(skills, 0, 15));
        state(guests.size() < 10);
        Guest guest = new Guest();
        guest.admittedOn = today;
        guest.term = term;
        for (int skill = 0; skill < 4; skill++) {
            guest.skills[skill] = (skills >> skill & 1) == 1;
        }
        guests.add(guest);
        return guests.size() - 1;
    }

    private Paper enter(Guest guest, boolean loses, int days) {
        state(guest.outOn < 0 && guest.papers.size() < 50);
        Paper paper = new Paper();
        paper.loses = loses;
        paper.days = days;
        paper.enteredOn = today;
        guest.papers.add(paper);
        return paper;
    }

    public int course(int person, int skill, int days) {
        Guest guest = guest(person);
        index(in(skill, 0, 3));
        argument(in(days, 0, 100));
        enter(guest, false, days);
        guest.skills[skill] = true;
        guest.regimeSteps.add(1);
        return guest.dueOn();
    }

    public int offence(int person, int days) {
        Guest guest = guest(person);
        argument(in(days, 0, 100));
        Paper paper = enter(guest, true, days);
        paper.lowered = guest.regime() > 0;
        guest.regimeSteps.add(-1);
        guest.job = null;
        return guest.offences().size() - 1;
    }

    public int appeal(int person, int offence) {
        Guest guest = guest(person);
        index(in(offence, 0, guest.offences().size() - 1));
        Paper paper = guest.offences().get(offence);
        state(guest.outOn < 0 && !paper.appealed);
        paper.appealed = true;
        if (paper.lowered) {
            guest.regimeSteps.add(1);
        }
        return guest.dueOn();
    }

    public int release(int person) {
        Guest guest = guest(person);
        return guest.outOn < 0 ? guest.dueOn() : guest.outOn;
    }

    public boolean isIn(int person) {
        return guest(person).outOn < 0;
    }

    public int regime(int person) {
        return guest(person).regime();
    }

    public int papers(int person, boolean loses) {
        return guest(person).days(loses);
    }

    public int setTools(int kind, int count) {
        index(in(kind, 0, 2));
        argument(in(count, 0, 20));
        state(outOf(kind) <= count);
        int before = tools[kind];
        tools[kind] = count;
        return before;
    }

    public int toolsOut(int kind) {
        index(in(kind, 0, 2));
        return outOf(kind);
    }

    public int addOrder(int skill, int kind, int work, int wage) {
        index(in(skill, 0, 3) && in(kind, 0, 2));
        argument(in(work, 1, 500) && in(wage, 0, 1000));
        state(jobs.size() < 8);
        Job job = new Job();
        job.skill = skill;
        job.kind = kind;
        job.work = work;
        job.wage = wage;
        jobs.add(job);
        return jobs.size() - 1;
    }

    public int assign(int person, int order) {
        Guest guest = guest(person);
        Job job = job(order);
        state(guest.outOn < 0 && guest.job == null && guest.skills[job.skill]);
        state(workLeft(job) > 0 && outOf(job.kind) < tools[job.kind]);
        guest.job = job;
        int on = 0;
        for (Guest other : guests) {
            if (other.job == job) {
                on++;
            }
        }
        return on;
    }

    public int takeOff(int person) {
        Guest guest = guest(person);
        state(guest.job != null);
        int order = jobs.indexOf(guest.job);
        guest.job = null;
        return order;
    }

    public int orderOf(int person) {
        return jobs.indexOf(guest(person).job);
    }

    public int left(int order) {
        return workLeft(job(order));
    }

    public int account(int person, int account) {
        Guest guest = guest(person);
        index(in(account, 0, 3));
        return guest.outOn >= 0 && account >= 2 ? 0 : guest.balance(account);
    }

    public int buy(int person, int amount) {
        Guest guest = guest(person);
        argument(in(amount, 1, 1000));
        state(guest.outOn < 0 && guest.balance(3) >= amount && limit(person) >= amount);
        Purchase purchase = new Purchase();
        purchase.day = today;
        purchase.amount = amount;
        guest.purchases.add(purchase);
        return guest.balance(3);
    }

    public int limit(int person) {
        Guest guest = guest(person);
        if (guest.outOn >= 0) {
            return 0;
        }
        int limit = 10 + 20 * guest.regime();
        for (Paper offence : guest.offences()) {
            if (!offence.appealed && offence.enteredOn >= today - 29) {
                limit -= 5;
            }
        }
        limit = Math.max(0, limit);
        int firstOfSpan = today - today % 7;
        for (Purchase purchase : guest.purchases) {
            if (purchase.day >= firstOfSpan) {
                limit -= purchase.amount;
            }
        }
        return Math.max(0, limit);
    }

    public int paidOut(int person) {
        Guest guest = guest(person);
        return guest.outOn < 0 ? 0 : guest.balance(2) + guest.balance(3);
    }

    public int pass(int days) {
        argument(in(days, 1, 100));
        int out = 0;
        for (int day = 0; day < days; day++) {
            out += passOne();
        }
        return out;
    }

    private int passOne() {
        for (Guest guest : guests) {
            if (guest.job != null && workLeft(guest.job) > 0) {
                guest.worked.add(guest.job);
            }
        }
        for (Guest guest : guests) {
            if (guest.job != null && workLeft(guest.job) == 0) {
                guest.job = null;
            }
        }
        today++;
        int out = 0;
        for (Guest guest : guests) {
            if (guest.outOn < 0 && guest.dueOn() <= today) {
                guest.outOn = today;
                guest.job = null;
                out++;
            }
        }
        return out;
    }
}
