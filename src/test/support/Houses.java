/** Makes houses from lists, and writes down all that a house tells of itself. */
final class Houses {
    private Houses() {
    }

    /** One text a person: its list, a digit for each other one. */
    static RoommateHouse of(String... lists) {
        RoommateHouse house = new RoommateHouse();
        house.people(lists.length);
        for (int person = 0; person < lists.length; person++) {
            for (int i = 0; i < lists[person].length(); i++) {
                house.put(person, lists[person].charAt(i) - '0');
            }
        }
        return house;
    }

    static String list(RoommateHouse house, int person) {
        StringBuilder text = new StringBuilder();
        for (int i = 0; house.at(person, i) != RoommateHouse.NONE; i++) {
            text.append(house.at(person, i));
        }
        return text.toString();
    }

    static String partners(RoommateHouse house) {
        StringBuilder text = new StringBuilder();
        for (int person = 0; person < house.size(); person++) {
            text.append(house.partner(person));
        }
        return text.toString();
    }

    static String matching(RoommateHouse house) {
        StringBuilder text = new StringBuilder();
        for (int person = 0; person < house.size(); person++) {
            text.append(house.matched(person));
        }
        return text.toString();
    }

    static String extremes(RoommateHouse house, boolean worst) {
        StringBuilder text = new StringBuilder();
        for (int person = 0; person < house.size(); person++) {
            text.append(house.extreme(person, worst));
        }
        return text.toString();
    }

    /** For each person the size of its odd party and its next one there. */
    static String rounds(RoommateHouse house) {
        StringBuilder text = new StringBuilder();
        for (int person = 0; person < house.size(); person++) {
            text.append(person == 0 ? "" : " ");
            text.append(house.party(person)).append('>').append(house.next(person));
        }
        return text.toString();
    }

    static String all(RoommateHouse house) {
        StringBuilder text = new StringBuilder();
        for (int person = 0; person < house.size(); person++) {
            text.append(list(house, person)).append('/');
        }
        text.append(partners(house)).append('/').append(house.blocking());
        text.append('/').append(house.matchings()).append('/').append(matching(house));
        text.append('/').append(extremes(house, false)).append('/').append(extremes(house, true));
        text.append('/').append(rounds(house)).append('/').append(house.parties(false));
        text.append('/').append(house.parties(true)).append('/').append(house.astray());
        return text.toString();
    }
}
