import java.util.function.IntUnaryOperator;

/** Makes houses from lists, and writes down what a house tells of itself. */
final class Houses {
    private Houses() {
    }

    /** One text a person: its list, a digit for each other one. */
    static RoommateHouse of(String... lists) {
        RoommateHouse house = new RoommateHouse();
        house.people(lists.length);
        for (int person = 0; person < lists.length; person++) {
            for (int i = 0; i < lists[person].length(); i++) {
                house.put(person, lists[person].charAt(i) - '0');
            }
        }
        return house;
    }

    /** Everybody has everybody on its list, beginning with who comes behind it. */
    static RoommateHouse full(int n) {
        RoommateHouse house = new RoommateHouse();
        house.people(n);
        for (int person = 0; person < n; person++) {
            for (int step = 1; step < n; step++) {
                house.put(person, (person + step) % n);
            }
        }
        return house;
    }

    static String list(RoommateHouse house, int person) {
        StringBuilder text = new StringBuilder();
        int n = house.size();
        for (int i = 0; i < n; i++) {
            int other = house.at(person, i);
            text.append(other == RoommateHouse.NONE ? "" : other);
        }
        return text.toString();
    }

    static String lists(RoommateHouse house) {
        StringBuilder text = new StringBuilder();
        int n = house.size();
        for (int person = 0; person < n; person++) {
            text.append(person == 0 ? "" : "/").append(list(house, person));
        }
        return text.toString();
    }

    private static String ofEach(RoommateHouse house, IntUnaryOperator asked) {
        StringBuilder text = new StringBuilder();
        int n = house.size();
        for (int person = 0; person < n; person++) {
            int answer = asked.applyAsInt(person);
            text.append(answer == RoommateHouse.NONE ? "-" : answer);
        }
        return text.toString();
    }

    static String places(RoommateHouse house, int person) {
        return ofEach(house, other -> house.place(person, other));
    }

    static String partners(RoommateHouse house) {
        return ofEach(house, house::partner);
    }

    static String matching(RoommateHouse house) {
        return ofEach(house, house::matched);
    }

    static String best(RoommateHouse house) {
        return ofEach(house, person -> house.extreme(person, false));
    }

    static String worst(RoommateHouse house) {
        return ofEach(house, person -> house.extreme(person, true));
    }

    static String together(RoommateHouse house, int person) {
        return ofEach(house, other -> house.together(person, other));
    }

    static String partySizes(RoommateHouse house) {
        return ofEach(house, house::party);
    }

    static String nextOnes(RoommateHouse house) {
        return ofEach(house, house::next);
    }

    /** Everything that a house answers; for a few persons only, as calls on a house are counted. */
    static String all(RoommateHouse house) {
        StringBuilder text = new StringBuilder(lists(house));
        int n = house.size();
        for (int person = 0; person < n; person++) {
            text.append(' ').append(places(house, person));
            text.append(' ').append(together(house, person));
        }
        return text.append(' ').append(partners(house)).append(' ').append(house.blocking())
                .append(' ').append(house.matchings()).append(' ').append(matching(house))
                .append(' ').append(best(house)).append(' ').append(worst(house))
                .append(' ').append(partySizes(house)).append(' ').append(nextOnes(house))
                .append(' ').append(house.parties(false)).append(' ').append(house.parties(true))
                .append(' ').append(house.astray()).toString();
    }
}
