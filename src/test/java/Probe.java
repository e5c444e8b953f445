/**
 * All that later calls can tell of a house, as one text: the picture shows what can be asked for, and calls on twins
 * show the rest, such as skills, the number of tools, room for papers, which offences lowered a regime, and the day.
 */
final class Probe {
    private static final int[] LATER = {1, 2, 3, 4, 5, 6, 7, 28, 29, 30, 31};

    private Probe() {
    }

    static String of(House house) {
        StringBuilder text = new StringBuilder(Picture.of(house.twin()));
        roomAndTools(house.twin(), text);
        skills(house.twin(), text);
        for (int person = 0; isAnswered(house.twin(), person); person++) {
            courses(house.twin(), person, text);
            offences(house.twin(), person, text);
        }
        for (int days : LATER) {
            House later = house.twin();
            text.append("after ").append(days).append(": ").append(later.pass(days)).append('\n');
            text.append(Picture.of(later));
        }
        return text.toString();
    }

    private static boolean isAnswered(House house, int person) {
        return !tell(new StringBuilder(), () -> house.release(person)).startsWith("throws");
    }

    private static String tell(StringBuilder text, Due.Call call) {
        String outcome = Due.outcome(call);
        text.append(' ').append(outcome);
        return outcome;
    }

    private static void roomAndTools(House twin, StringBuilder text) {
        for (int kind = 0; kind < 3; kind++) {
            int k = kind;
            tell(text, () -> twin.setTools(k, 20));
        }
        for (int guest = 0; guest < 11; guest++) {
            String number = tell(text, () -> twin.admit(1, 0));
            if (!number.startsWith("throws")) {
                tell(text, () -> twin.release(Integer.parseInt(number)));
            }
        }
        for (int order = 0; order < 9; order++) {
            tell(text, () -> twin.addOrder(0, 0, 1, 0));
        }
        text.append('\n');
    }

    private static void skills(House twin, StringBuilder text) {
        for (int kind = 0; kind < 3; kind++) {
            twin.setTools(kind, 20);
        }
        for (int skill = 0; skill < 4; skill++) {
            int s = skill;
            tell(text, () -> twin.addOrder(s, 0, 500, 0));
        }
        for (int person = 0; person < 10; person++) {
            int p = person;
            tell(text, () -> twin.takeOff(p));
            for (int order = 0; order < 8; order++) {
                int o = order;
                if (!tell(text, () -> twin.assign(p, o)).startsWith("throws")) {
                    twin.takeOff(p);
                }
            }
        }
        text.append('\n');
    }

    private static void courses(House twin, int person, StringBuilder text) {
        for (int paper = 0; paper < 51; paper++) {
            if (tell(text, () -> twin.course(person, 0, 0)).startsWith("throws")) {
                break;
            }
            tell(text, () -> twin.limit(person));
        }
        text.append('\n');
    }

    private static void offences(House twin, int person, StringBuilder text) {
        for (int offence = 0; offence < 51; offence++) {
            int o = offence;
            tell(text, () -> twin.offence(person, 0));
            if (tell(text, () -> twin.appeal(person, o)).startsWith("throws.Index")) {
                break;
            }
            tell(text, () -> twin.regime(person));
        }
        text.append('\n');
    }
}
