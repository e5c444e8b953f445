/** All that can be asked of a house without changing it, as one text. */
final class Picture {
    private Picture() {
    }

    static String of(Face cards) {
        StringBuilder text = new StringBuilder();
        for (int person = 0; exists(cards, person); person++) {
            text.append("person ").append(person).append(':');
            text.append(" release ").append(cards.release(person));
            text.append(" in ").append(cards.isIn(person));
            text.append(" regime ").append(cards.regime(person));
            text.append(" gained ").append(cards.papers(person, false));
            text.append(" lost ").append(cards.papers(person, true));
            text.append(" order ").append(cards.orderOf(person));
            text.append(" accounts");
            for (int account = 0; account < 4; account++) {
                text.append(' ').append(cards.account(person, account));
            }
            text.append(" limit ").append(cards.limit(person));
            text.append(" paid ").append(cards.paidOut(person));
            text.append('\n');
        }
        for (int kind = 0; kind < 3; kind++) {
            text.append("out ").append(cards.toolsOut(kind)).append('\n');
        }
        for (int order = 0; hasOrder(cards, order); order++) {
            text.append("left ").append(cards.left(order)).append('\n');
        }
        return text.toString();
    }

    private static boolean exists(Face cards, int person) {
        try {
            cards.isIn(person);
            return true;
        } catch (IndexOutOfBoundsException none) {
            return false;
        }
    }

    private static boolean hasOrder(Face cards, int order) {
        try {
            cards.left(order);
            return true;
        } catch (IndexOutOfBoundsException none) {
            return false;
        }
    }
}
