import java.util.LinkedHashMap;
import java.util.Map;

/** The terms' sentences on exceptions, each held against every call that throws. */
public final class RefusalsTest {
    private static final Check CHECK = new Check();
    private static final Map<String, PersonCall> PERSON_CALLS = personCalls();

    /** A call with one of its persons left open. */
    private interface PersonCall {
        int on(RoommateHouse house, int person);
    }

    public static void main(String[] args) {
        CHECK.sentence("Terms: PERSONS are 0 .. n - 1, n at most 8",
                RefusalsTest::personsAreBelowN);
        CHECK.sentence("Terms: IndexOutOfBounds: there is no such person (or place, as told).",
                RefusalsTest::othersAreNoPersons);
        CHECK.sentence("Terms: Of several that a call names, the first one.",
                RefusalsTest::theFirstExceptionIsThrown);
        CHECK.sentence("Terms: A call that throws changes nothing.",
                RefusalsTest::whatThrowsChangesNothing);
        CHECK.finish();
    }

    private static Map<String, PersonCall> personCalls() {
        Map<String, PersonCall> calls = new LinkedHashMap<>();
        calls.put("put(P, 0)", (house, person) -> house.put(person, 0));
        calls.put("put(0, P)", (house, person) -> house.put(0, person));
        calls.put("remove(P, 0)", (house, person) -> house.remove(person, 0));
        calls.put("move(P, 0, 0)", (house, person) -> house.move(person, 0, 0));
        calls.put("at(P, 0)", (house, person) -> house.at(person, 0));
        calls.put("place(P, 0)", (house, person) -> house.place(person, 0));
        calls.put("place(0, P)", (house, person) -> house.place(0, person));
        calls.put("pair(P, 0)", (house, person) -> house.pair(person, 0));
        calls.put("pair(0, P)", (house, person) -> house.pair(0, person));
        calls.put("partner(P)", (house, person) -> house.partner(person));
        calls.put("matched(P)", (house, person) -> house.matched(person));
        calls.put("extreme(P, false)", (house, person) -> house.extreme(person, false));
        calls.put("extreme(P, true)", (house, person) -> house.extreme(person, true));
        calls.put("together(P, 0)", (house, person) -> house.together(person, 0));
        calls.put("together(0, P)", (house, person) -> house.together(0, person));
        calls.put("party(P)", (house, person) -> house.party(person));
        calls.put("next(P)", (house, person) -> house.next(person));
        return calls;
    }

    private static void personsAreBelowN() {
        for (int n = 2; n <= 8; n++) {
            for (int person = 0; person < n; person++) {
                for (Map.Entry<String, PersonCall> call : PERSON_CALLS.entrySet()) {
                    RoommateHouse house = Houses.full(n);
                    int who = person;
                    String got = Check.answer(() -> call.getValue().on(house, who));
                    CHECK.same(call.getKey() + " with P = " + who + " of " + n,
                            "" + got.equals(Check.BOUNDS), "false");
                }
            }
        }
    }

    private static void othersAreNoPersons() {
        for (int n = 0; n <= 8; n++) {
            for (Map.Entry<String, PersonCall> call : PERSON_CALLS.entrySet()) {
                RoommateHouse house = Houses.full(n);
                for (int who : new int[] {-1, n, n + 1, 8, 9, Integer.MIN_VALUE,
                    Integer.MAX_VALUE}) {
                    CHECK.outOfBounds(call.getKey() + " with P = " + who + " of " + n,
                            () -> call.getValue().on(house, who));
                }
            }
        }
        RoommateHouse fewer = Houses.full(8);
        fewer.people(3);
        CHECK.outOfBounds("who is no person any more", () -> fewer.partner(3));
    }

    private static void theFirstExceptionIsThrown() {
        RoommateHouse house = Houses.of("12", "0", "");
        for (int nobody : new int[] {-1, 3, 8}) {
            CHECK.outOfBounds("put: nobody, and the same", () -> house.put(nobody, nobody));
            CHECK.outOfBounds("pair: nobody, the same, and not possible",
                    () -> house.pair(nobody, nobody));
            CHECK.outOfBounds("pair: the one is nobody, and not possible",
                    () -> house.pair(nobody, 2));
            CHECK.outOfBounds("pair: the other is nobody, and not possible",
                    () -> house.pair(2, nobody));
        }
        CHECK.badArgument("pair: the same, and not possible", () -> house.pair(2, 2));
    }

    private static void whatThrowsChangesNothing() {
        refused("people(-1)", Check.ARGUMENT, (house, nobody) -> house.people(-1));
        refused("people(9)", Check.ARGUMENT, (house, nobody) -> house.people(9));
        refused("put the same", Check.ARGUMENT, (house, nobody) -> house.put(1, 1));
        refused("put who is on it", Check.STATE, (house, nobody) -> house.put(0, 2));
        refused("remove below", Check.BOUNDS, (house, nobody) -> house.remove(0, -1));
        refused("remove behind", Check.BOUNDS, (house, nobody) -> house.remove(0, 3));
        refused("move from below", Check.BOUNDS, (house, nobody) -> house.move(0, -1, 1));
        refused("move from behind", Check.BOUNDS, (house, nobody) -> house.move(0, 3, 1));
        refused("move to below", Check.BOUNDS, (house, nobody) -> house.move(0, 1, -1));
        refused("move to behind", Check.BOUNDS, (house, nobody) -> house.move(0, 1, 3));
        refused("at below", Check.BOUNDS, (house, nobody) -> house.at(0, -1));
        refused("pair the same", Check.ARGUMENT, (house, nobody) -> house.pair(0, 0));
        refused("pair who is not possible", Check.STATE, (house, nobody) -> house.pair(0, 3));
        for (Map.Entry<String, PersonCall> call : PERSON_CALLS.entrySet()) {
            refused(call.getKey(), Check.BOUNDS, call.getValue());
        }
    }

    private static void refused(String name, String due, PersonCall call) {
        for (int nobody : new int[] {-1, 4, 8}) {
            RoommateHouse house = Houses.of("123", "203", "01", "1");
            house.pair(0, 1);
            String before = Houses.all(house);
            CHECK.same(name, Check.answer(() -> call.on(house, nobody)), due);
            CHECK.same("all behind " + name, Houses.all(house), before);
        }
    }
}
