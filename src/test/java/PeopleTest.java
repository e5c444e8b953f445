/** Promises 1 to 9: people and papers. */
public final class PeopleTest {
    private static final Class<IndexOutOfBoundsException> INDEX = IndexOutOfBoundsException.class;
    private static final Class<IllegalArgumentException> ARGUMENT = IllegalArgumentException.class;
    private static final Class<IllegalStateException> STATE = IllegalStateException.class;

    private static final Due due = new Due("PeopleTest");

    public static void main(String[] args) {
        promise1NewObject();
        promise2Admit();
        promise2AdmitRefuses();
        promise3Course();
        promise3CourseRefuses();
        promise4Offence();
        promise4OffenceLeavesTheOrder();
        promise4OffenceRefuses();
        promise5Appeal();
        promise5AppealMayBeOver();
        promise5AppealRefuses();
        promise6Release();
        promise6ReleaseOfTheReleased();
        promise7IsIn();
        promise8Regime();
        promise9Papers();
        due.end();
    }

    /** A house with tools of kind 0 and an order 0 that wants skill 0. */
    private static House workshop(int work, int wage) {
        House x = new House();
        x.setTools(0, 10);
        x.addOrder(0, 0, work, wage);
        return x;
    }

    private static void promise1NewObject() {
        House x = new House();
        due.answers("isIn(0) of a new house", -1, () -> {
            try {
                x.isIn(0);
                return 1;
            } catch (IndexOutOfBoundsException none) {
                return -1;
            }
        });
        due.refuses("left(0) of a new house", INDEX, x, () -> x.left(0));
        for (int kind = 0; kind < 3; kind++) {
            int k = kind;
            due.answers("toolsOut of a new house", 0, () -> x.toolsOut(k));
            due.answers("setTools of a new house", 0, () -> x.setTools(k, 5));
        }
        due.answers("the first person", 0, () -> x.admit(7, 0));
        due.answers("release of one admitted on day 0", 7, () -> x.release(0));
        due.answers("the first order", 0, () -> x.addOrder(0, 0, 1, 1));
        House other = new House();
        due.refuses("another house knows nothing of it", INDEX, other, () -> other.release(0));
        due.answers("tools of another house", 0, () -> other.setTools(1, 1));
    }

    private static void promise2Admit() {
        House x = new House();
        due.answers("admit the least", 0, () -> x.admit(1, 0));
        due.answers("admit the most", 1, () -> x.admit(2000, 15));
        due.answers("release after the least term", 1, () -> x.release(0));
        due.answers("release after the longest term", 2000, () -> x.release(1));
        due.answers("pass", 1, () -> x.pass(3));
        due.answers("admit on day 3", 2, () -> x.admit(5, 6));
        due.answers("release of one admitted on day 3", 8, () -> x.release(2));
        due.answers("regime at first", 1, () -> x.regime(2));
        due.answers("papers at first, gained", 0, () -> x.papers(2, false));
        due.answers("papers at first, lost", 0, () -> x.papers(2, true));
        due.answers("order at first", -1, () -> x.orderOf(2));
        due.answers("account at first", 0, () -> x.account(2, 3));
        skillsAreBits();
    }

    private static void skillsAreBits() {
        for (int skills = 0; skills < 16; skills++) {
            House x = new House();
            x.setTools(0, 1);
            x.admit(100, skills);
            for (int skill = 0; skill < 4; skill++) {
                int order = x.addOrder(skill, 0, 10, 1);
                boolean has = (skills >> skill) % 2 == 1;
                String call = "assign to skill " + skill + " with skills " + skills;
                if (has) {
                    due.answers(call, 1, () -> x.assign(0, order));
                    x.takeOff(0);
                } else {
                    due.refuses(call, STATE, x, () -> x.assign(0, order));
                }
            }
        }
    }

    private static void promise2AdmitRefuses() {
        House x = new House();
        int[][] wrong = {{0, 0}, {-1, 0}, {2001, 0}, {Integer.MAX_VALUE, 0}, {Integer.MIN_VALUE, 0},
            {1, -1}, {1, 16}, {1, Integer.MAX_VALUE}, {1, Integer.MIN_VALUE}};
        for (int[] w : wrong) {
            due.refuses("admit(" + w[0] + ", " + w[1] + ")", ARGUMENT, x, () -> x.admit(w[0], w[1]));
        }
        for (int person = 0; person < 10; person++) {
            int want = person;
            due.answers("admit number " + person, want, () -> x.admit(1 + want, 0));
        }
        due.refuses("admit an eleventh", STATE, x, () -> x.admit(1, 0));
        due.refuses("a wrong term goes before a full house", ARGUMENT, x, () -> x.admit(0, 0));
        due.refuses("wrong skills go before a full house", ARGUMENT, x, () -> x.admit(1, 16));
        x.pass(20);
        due.refuses("released people count too", STATE, x, () -> x.admit(1, 0));
    }

    private static void promise3Course() {
        House x = workshop(100, 10);
        x.admit(100, 0);
        due.refuses("assign without the skill", STATE, x, () -> x.assign(0, 0));
        due.answers("a course that gains nothing", 100, () -> x.course(0, 0, 0));
        due.answers("its skill is there", 1, () -> x.assign(0, 0));
        due.answers("its regime", 2, () -> x.regime(0));
        due.answers("a course", 93, () -> x.course(0, 3, 7));
        due.answers("regime 2 is not raised", 2, () -> x.regime(0));
        due.answers("a course up to a quarter of the term", 75, () -> x.course(0, 0, 18));
        due.answers("a course beyond a quarter", 75, () -> x.course(0, 1, 100));
        due.answers("gained ones count or not", 125, () -> x.papers(0, false));
        due.answers("a course leaves the order alone", 0, () -> x.orderOf(0));
        x.admit(7, 0);
        due.answers("a quarter is rounded down", 6, () -> x.course(1, 0, 2));
        x.admit(3, 0);
        due.answers("a quarter of less than 4 is none", 3, () -> x.course(2, 0, 100));
        x.admit(3, 1);
        due.answers("a course in a skill that is there", 3, () -> x.course(3, 0, 0));
        due.answers("that skill stays", 2, () -> x.assign(3, 0));
        x.admit(8, 0);
        x.pass(2);
        due.answers("a course later on", 7, () -> x.course(4, 2, 1));
    }

    private static void promise3CourseRefuses() {
        House x = new House();
        x.admit(2000, 0);
        x.admit(1, 0);
        int[] nobody = {-1, 2, 9, 10, Integer.MAX_VALUE, Integer.MIN_VALUE};
        for (int person : nobody) {
            due.refuses("course of person " + person, INDEX, x, () -> x.course(person, 0, -1));
        }
        int[] noSkill = {-1, 4, 32, Integer.MAX_VALUE, Integer.MIN_VALUE};
        for (int skill : noSkill) {
            due.refuses("course in skill " + skill, INDEX, x, () -> x.course(0, skill, 101));
        }
        int[] noDays = {-1, 101, Integer.MAX_VALUE, Integer.MIN_VALUE};
        for (int days : noDays) {
            due.refuses("course of days " + days, ARGUMENT, x, () -> x.course(0, 3, days));
        }
        x.pass(1);
        due.refuses("course of the released", STATE, x, () -> x.course(1, 0, 0));
        due.refuses("days go before the released", ARGUMENT, x, () -> x.course(1, 0, 101));
        due.refuses("skills go before the released", INDEX, x, () -> x.course(1, 4, 0));
        fillPapers(x);
        due.refuses("course 51", STATE, x, () -> x.course(0, 0, 0));
        due.refuses("days go before 50 papers", ARGUMENT, x, () -> x.course(0, 0, -1));
        due.refuses("skills go before 50 papers", INDEX, x, () -> x.course(0, -1, 0));
    }

    /** Gives person 0 the 50 papers, and sees to it that there is room for the last one, of either sort. */
    private static void fillPapers(House x) {
        for (int paper = 0; paper < 25; paper++) {
            int number = paper;
            due.answers("offence " + paper, number, () -> x.offence(0, 0));
            if (paper < 24) {
                due.answers("course " + paper, 2000, () -> x.course(0, 0, 0));
            }
        }
        due.answers("an appealed offence stays a paper", 2000, () -> x.appeal(0, 0));
        due.answers("course that is paper 50", 2000, () -> x.course(0, 0, 0));
    }

    private static void promise4Offence() {
        House x = new House();
        x.admit(100, 0);
        x.admit(100, 0);
        due.answers("the first offence", 0, () -> x.offence(0, 0));
        due.answers("its regime", 0, () -> x.regime(0));
        due.answers("an offence that loses nothing", 100, () -> x.release(0));
        due.answers("the second offence", 1, () -> x.offence(0, 100));
        due.answers("regime 0 is not lowered", 0, () -> x.regime(0));
        due.answers("the days are lost", 200, () -> x.release(0));
        due.answers("the third offence", 2, () -> x.offence(0, 3));
        due.answers("the days add up", 203, () -> x.release(0));
        due.answers("offences are numbered for each person", 0, () -> x.offence(1, 1));
        due.answers("the other's release", 101, () -> x.release(1));
        x.course(1, 0, 100);
        due.answers("lost days are whole, gained ones a quarter", 76, () -> x.release(1));
        due.answers("a course has no number among the offences", 1, () -> x.offence(1, 1));
    }

    private static void promise4OffenceLeavesTheOrder() {
        House x = workshop(100, 10);
        x.admit(100, 1);
        x.admit(100, 1);
        x.assign(0, 0);
        x.assign(1, 0);
        x.offence(0, 0);
        due.answers("order after an offence", -1, () -> x.orderOf(0));
        due.answers("the other's order", 0, () -> x.orderOf(1));
        due.answers("the tool is in again", 1, () -> x.toolsOut(0));
        x.pass(1);
        due.answers("who left does not work", 99, () -> x.left(0));
        due.answers("back on it, two people", 2, () -> x.assign(0, 0));
    }

    private static void promise4OffenceRefuses() {
        House x = workshop(10, 1);
        x.admit(2000, 1);
        x.admit(1, 0);
        x.assign(0, 0);
        int[] nobody = {-1, 2, 10, Integer.MAX_VALUE, Integer.MIN_VALUE};
        for (int person : nobody) {
            due.refuses("offence of person " + person, INDEX, x, () -> x.offence(person, -1));
        }
        int[] noDays = {-1, 101, Integer.MAX_VALUE, Integer.MIN_VALUE};
        for (int days : noDays) {
            due.refuses("offence of days " + days, ARGUMENT, x, () -> x.offence(0, days));
        }
        x.pass(1);
        due.refuses("offence of the released", STATE, x, () -> x.offence(1, 0));
        due.refuses("days go before the released", ARGUMENT, x, () -> x.offence(1, -1));
        for (int paper = 0; paper < 50; paper++) {
            int number = paper;
            due.answers("offence " + paper, number, () -> x.offence(0, 1));
        }
        x.assign(0, 0);
        due.refuses("offence 51", STATE, x, () -> x.offence(0, 0));
        due.refuses("days go before 50 papers", ARGUMENT, x, () -> x.offence(0, 101));
        due.answers("the last offence is there", 2049, () -> x.appeal(0, 49));
        due.refuses("there is no offence 50", INDEX, x, () -> x.appeal(0, 50));
        due.refuses("an appeal makes no room", STATE, x, () -> x.offence(0, 0));
        courseAfterFiftyOffences();
    }

    private static void courseAfterFiftyOffences() {
        House x = new House();
        x.admit(2000, 0);
        for (int paper = 0; paper < 49; paper++) {
            x.course(0, 0, 0);
        }
        due.answers("offence that is paper 50", 0, () -> x.offence(0, 0));
        due.refuses("offence that is paper 51", STATE, x, () -> x.offence(0, 0));
        due.refuses("course that is paper 51", STATE, x, () -> x.course(0, 1, 0));
        workMakesNoPaperOfThese();
    }

    private static void workMakesNoPaperOfThese() {
        House x = workshop(500, 0);
        x.admit(2000, 1);
        x.assign(0, 0);
        x.pass(100);
        x.pass(100);
        for (int paper = 0; paper < 50; paper++) {
            x.course(0, 0, 0);
        }
        due.answers("papers of work take no room", 40, () -> x.papers(0, false));
        x.pass(100);
        due.answers("50 papers keep nobody from work", 60, () -> x.papers(0, false));
    }

    private static void promise5Appeal() {
        House x = new House();
        x.admit(100, 0);
        x.offence(0, 10);
        x.offence(0, 20);
        due.answers("regime after two offences", 0, () -> x.regime(0));
        due.answers("appeal of one that did not lower", 110, () -> x.appeal(0, 1));
        due.answers("its regime", 0, () -> x.regime(0));
        due.answers("release after it", 110, () -> x.release(0));
        due.answers("appeal of one that lowered", 100, () -> x.appeal(0, 0));
        due.answers("its regime", 1, () -> x.regime(0));
        x.offence(0, 1);
        x.course(0, 0, 0);
        x.course(0, 0, 0);
        due.answers("appeal with regime 2", 100, () -> x.appeal(0, 2));
        due.answers("regime 2 is not raised", 2, () -> x.regime(0));
        due.answers("an appeal of nothing lost", 0, () -> x.papers(0, true));
    }

    private static void promise5AppealMayBeOver() {
        House x = new House();
        x.admit(3, 0);
        x.offence(0, 50);
        due.answers("an offence holds", 0, () -> x.pass(10));
        due.answers("appeal when it would be over", 3, () -> x.appeal(0, 0));
        due.answers("in until the next day passes", 1, () -> x.isIn(0) ? 1 : 0);
        due.answers("release until then", 3, () -> x.release(0));
        due.answers("the limit until then", 30, () -> x.limit(0));
        due.answers("the next day", 1, () -> x.pass(1));
        due.answers("released then", 0, () -> x.isIn(0) ? 1 : 0);
        due.answers("on that day", 11, () -> x.release(0));
    }

    private static void promise5AppealRefuses() {
        House x = new House();
        x.admit(100, 0);
        x.admit(1, 0);
        x.admit(100, 0);
        x.offence(0, 5);
        x.offence(1, 1);
        x.offence(1, 1);
        x.appeal(1, 1);
        int[] nobody = {-1, 3, 10, Integer.MAX_VALUE, Integer.MIN_VALUE};
        for (int person : nobody) {
            due.refuses("appeal of person " + person, INDEX, x, () -> x.appeal(person, 0));
        }
        int[] noOffence = {-1, 1, 49, 50, Integer.MAX_VALUE, Integer.MIN_VALUE};
        for (int offence : noOffence) {
            due.refuses("appeal of offence " + offence, INDEX, x, () -> x.appeal(0, offence));
        }
        due.refuses("appeal of another's offence", INDEX, x, () -> x.appeal(2, 0));
        due.answers("appeal", 100, () -> x.appeal(0, 0));
        due.refuses("appeal again", STATE, x, () -> x.appeal(0, 0));
        x.pass(2);
        due.refuses("appeal of the released", STATE, x, () -> x.appeal(1, 0));
        due.refuses("appeal of the released, again", STATE, x, () -> x.appeal(1, 1));
        due.refuses("offences go before the released", INDEX, x, () -> x.appeal(1, 2));
    }

    private static void promise6Release() {
        House x = workshop(100, 0);
        x.admit(40, 1);
        due.answers("release", 40, () -> x.release(0));
        x.assign(0, 0);
        x.pass(4);
        due.answers("after 4 days of work", 40, () -> x.release(0));
        x.pass(1);
        due.answers("after 5 days of work", 39, () -> x.release(0));
        x.course(0, 1, 8);
        due.answers("with a course", 31, () -> x.release(0));
        x.offence(0, 2);
        due.answers("with an offence", 33, () -> x.release(0));
        x.assign(0, 0);
        x.pass(5);
        due.answers("after 10 days of work, a quarter in all", 32, () -> x.release(0));
        x.pass(5);
        due.answers("no more than a quarter", 32, () -> x.release(0));
        refusesNobody(x, "release", person -> x.release(person));
    }

    private static void promise6ReleaseOfTheReleased() {
        House x = new House();
        x.admit(10, 0);
        x.admit(4, 0);
        x.offence(1, 30);
        x.pass(7);
        x.appeal(1, 0);
        due.answers("both", 1, () -> x.pass(2));
        due.answers("who was over is released on the next day", 8, () -> x.release(1));
        x.pass(50);
        due.answers("the day of the release stays", 8, () -> x.release(1));
        due.answers("the release day of the other", 10, () -> x.release(0));
    }

    private static void promise7IsIn() {
        House x = new House();
        x.admit(3, 0);
        x.admit(4, 0);
        x.pass(2);
        due.equal("in before the day", true, x.isIn(0));
        x.pass(1);
        due.equal("out on the day", false, x.isIn(0));
        due.equal("the other", true, x.isIn(1));
        x.pass(1);
        due.equal("out for good", false, x.isIn(0));
        refusesNobody(x, "isIn", person -> x.isIn(person) ? 1 : 0);
    }

    private static void promise8Regime() {
        House x = new House();
        x.admit(100, 0);
        x.admit(1, 0);
        due.answers("at first", 1, () -> x.regime(0));
        x.course(0, 0, 0);
        due.answers("after a course", 2, () -> x.regime(0));
        x.offence(0, 0);
        due.answers("after an offence", 1, () -> x.regime(0));
        x.offence(0, 0);
        x.offence(0, 0);
        due.answers("after two more", 0, () -> x.regime(0));
        x.course(0, 0, 0);
        due.answers("a course raises it still", 1, () -> x.regime(0));
        x.pass(50);
        due.answers("days leave it", 1, () -> x.regime(0));
        due.answers("of the released", 1, () -> x.regime(1));
        refusesNobody(x, "regime", person -> x.regime(person));
    }

    private static void promise9Papers() {
        House x = workshop(7, 10);
        x.addOrder(0, 0, 100, 0);
        x.admit(20, 1);
        x.course(0, 0, 4);
        x.course(0, 0, 5);
        due.answers("gained, beyond the quarter too", 9, () -> x.papers(0, false));
        due.answers("lost", 0, () -> x.papers(0, true));
        x.offence(0, 3);
        x.offence(0, 8);
        due.answers("lost of two", 11, () -> x.papers(0, true));
        x.appeal(0, 0);
        due.answers("lost less the appealed", 8, () -> x.papers(0, true));
        due.answers("gained is left by an appeal", 9, () -> x.papers(0, false));
        x.assign(0, 0);
        x.pass(7);
        due.answers("a paper for 5 days of work", 10, () -> x.papers(0, false));
        x.assign(0, 1);
        x.pass(3);
        due.answers("days of several orders add up", 11, () -> x.papers(0, false));
        x.pass(30);
        due.answers("gained of the released", x.release(0) == 23 ? 13 : -1, () -> x.papers(0, false));
        due.answers("lost of the released", 8, () -> x.papers(0, true));
        refusesNobody(x, "papers gained", person -> x.papers(person, false));
        refusesNobody(x, "papers lost", person -> x.papers(person, true));
    }

    private interface Question {
        long of(int person);
    }

    private static void refusesNobody(House x, String call, Question question) {
        int[] nobody = {-1, 3, 9, 10, Integer.MAX_VALUE, Integer.MIN_VALUE};
        for (int person : nobody) {
            due.refuses(call + " of person " + person, INDEX, x, () -> question.of(person));
        }
        House empty = new House();
        due.refuses("person 0 of an empty house", INDEX, empty, () -> empty.release(0));
    }
}
