/** The calls of the document's public face, so that tests can ask several things the same. */
interface Face {
    int admit(int term, int skills);

    int course(int person, int skill, int days);

    int offence(int person, int days);

    int appeal(int person, int offence);

    int release(int person);

    boolean isIn(int person);

    int regime(int person);

    int papers(int person, boolean loses);

    int setTools(int kind, int count);

    int toolsOut(int kind);

    int addOrder(int skill, int kind, int work, int wage);

    int assign(int person, int order);

    int takeOff(int person);

    int orderOf(int person);

    int left(int order);

    int account(int person, int account);

    int buy(int person, int amount);

    int limit(int person);

    int paidOut(int person);

    int pass(int days);
}
