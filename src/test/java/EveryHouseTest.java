import java.util.ArrayList;
import java.util.List;

/** Every house of up to four persons, with every list, against one written from the terms alone. */
public final class EveryHouseTest {
    private static final Check CHECK = new Check();
    private static final int MOST = 4;

    public static void main(String[] args) {
        for (int n = 0; n <= MOST; n++) {
            eachHouse(new String[n], 0);
        }
        CHECK.finish();
    }

    private static void eachHouse(String[] lists, int person) {
        if (person == lists.length) {
            CHECK.same(String.join("/", lists), told(new ProgramHouse(), lists),
                    told(new SlowHouse(), lists));
            return;
        }
        List<String> choices = new ArrayList<>();
        eachList("", person, lists.length, choices);
        for (String list : choices) {
            lists[person] = list;
            eachHouse(lists, person + 1);
        }
    }

    private static void eachList(String list, int person, int n, List<String> found) {
        found.add(list);
        for (int other = 0; other < n; other++) {
            if (other != person && list.indexOf('0' + other) < 0) {
                eachList(list + other, person, n, found);
            }
        }
    }

    private static String told(House house, String[] lists) {
        StringBuilder told = new StringBuilder();
        told.append(house.people(lists.length));
        for (int person = 0; person < lists.length; person++) {
            for (int i = 0; i < lists[person].length(); i++) {
                told.append(house.put(person, lists[person].charAt(i) - '0'));
            }
        }
        tellMatchings(house, told);
        tellParties(house, told);
        tellDraft(house, told);
        return told.toString();
    }

    private static void tellMatchings(House house, StringBuilder told) {
        int n = house.size();
        told.append(" matchings ").append(house.matchings());
        for (int person = 0; person < n; person++) {
            told.append(' ').append(house.matched(person));
            told.append(' ').append(house.extreme(person, false));
            told.append(' ').append(house.extreme(person, true));
            for (int other = 0; other < n; other++) {
                told.append(' ').append(house.together(person, other));
            }
        }
    }

    private static void tellParties(House house, StringBuilder told) {
        int n = house.size();
        told.append(" parties ").append(house.parties(false));
        told.append(' ').append(house.parties(true));
        for (int person = 0; person < n; person++) {
            told.append(' ').append(house.party(person)).append(' ').append(house.next(person));
        }
    }

    private static void tellDraft(House house, StringBuilder told) {
        int n = house.size();
        told.append(" draft ").append(house.blocking());
        for (int step = 0; step <= n; step++) {
            told.append(" satisfy ").append(house.satisfy());
            tellPartners(house, told);
        }
        for (int one = 0; one < n; one++) {
            for (int other = 0; other < one; other++) {
                if (house.place(one, other) >= 0 && house.place(other, one) >= 0) {
                    told.append(" pair ").append(house.pair(one, other));
                    tellPartners(house, told);
                }
            }
        }
        for (int person = 0; person < n; person++) {
            if (house.at(person, 0) >= 0) {
                told.append(" remove ").append(house.remove(person, 0));
                tellPartners(house, told);
            }
        }
    }

    private static void tellPartners(House house, StringBuilder told) {
        int n = house.size();
        for (int person = 0; person < n; person++) {
            told.append(' ').append(house.partner(person));
        }
        told.append(" astray ").append(house.astray());
    }
}
