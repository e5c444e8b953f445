import java.util.ArrayList;
import java.util.List;

/**
 * A ParoleCards that remembers its calls, so that a twin can be made of it and asked everything:
 * the document promises 512 calls on one object and no more, and asking everything takes many.
 */
final class House implements Face {
    private static final int PROMISED_CALLS = 512;

    private interface Call {
        int on(ParoleCards cards);
    }

    private final ParoleCards cards = new ParoleCards();
    private final List<Call> calls = new ArrayList<>();

    /** A new house on which the same calls were made. */
    House twin() {
        House twin = new House();
        for (Call call : calls) {
            try {
                twin.make(call);
            } catch (RuntimeException refused) {
                continue;
            }
        }
        return twin;
    }

    private int make(Call call) {
        if (calls.size() >= PROMISED_CALLS) {
            throw new AssertionError("a test makes more calls than the document promises");
        }
        calls.add(call);
        return call.on(cards);
    }

    public int admit(int term, int skills) {
        return make(c -> c.admit(term, skills));
    }

    public int course(int person, int skill, int days) {
        return make(c -> c.course(person, skill, days));
    }

    public int offence(int person, int days) {
        return make(c -> c.offence(person, days));
    }

    public int appeal(int person, int offence) {
        return make(c -> c.appeal(person, offence));
    }

    public int release(int person) {
        return make(c -> c.release(person));
    }

    public boolean isIn(int person) {
        return make(c -> c.isIn(person) ? 1 : 0) == 1;
    }

    public int regime(int person) {
        return make(c -> c.regime(person));
    }

    public int papers(int person, boolean loses) {
        return make(c -> c.papers(person, loses));
    }

    public int setTools(int kind, int count) {
        return make(c -> c.setTools(kind, count));
    }

    public int toolsOut(int kind) {
        return make(c -> c.toolsOut(kind));
    }

    public int addOrder(int skill, int kind, int work, int wage) {
        return make(c -> c.addOrder(skill, kind, work, wage));
    }

    public int assign(int person, int order) {
        return make(c -> c.assign(person, order));
    }

    public int takeOff(int person) {
        return make(c -> c.takeOff(person));
    }

    public int orderOf(int person) {
        return make(c -> c.orderOf(person));
    }

    public int left(int order) {
        return make(c -> c.left(order));
    }

    public int account(int person, int account) {
        return make(c -> c.account(person, account));
    }

    public int buy(int person, int amount) {
        return make(c -> c.buy(person, amount));
    }

    public int limit(int person) {
        return make(c -> c.limit(person));
    }

    public int paidOut(int person) {
        return make(c -> c.paidOut(person));
    }

    public int pass(int days) {
        return make(c -> c.pass(days));
    }
}
