/** Promises 1 to 7 and 19: persons and their lists, a test for each sentence. */
public final class ListsTest {
    private static final Check CHECK = new Check();
    private static final int LOWEST = Integer.MIN_VALUE;
    private static final int HIGHEST = Integer.MAX_VALUE;

    public static void main(String[] args) {
        CHECK.sentence("Promise 1: No persons.", ListsTest::newHasNoPersons);
        CHECK.sentence("Promise 2: So many persons, with empty lists, all single in the draft: "
                + "how many there were.", ListsTest::peopleStartAnew);
        CHECK.sentence("Promise 2: IllegalArgument: n is not 0 .. 8.",
                ListsTest::peopleRefusesOtherCounts);
        CHECK.sentence("Promise 3: Another person comes behind a person's list: how many it has.",
                ListsTest::putAppends);
        CHECK.sentence("Promise 3: IllegalArgument: the same one.",
                ListsTest::putRefusesTheSameOne);
        CHECK.sentence("Promise 3: IllegalState: it is on it.", ListsTest::putRefusesWhoIsOnIt);
        CHECK.sentence("Promise 4: What stands at place i of a person's list goes from it: who.",
                ListsTest::removeTakesOut);
        CHECK.sentence("Promise 4: IndexOutOfBounds: also for the place.",
                ListsTest::removeRefusesOtherPlaces);
        CHECK.sentence("Promise 5: What stands at place i of a person's list comes to place j, "
                + "what is between goes on by one: who.", ListsTest::moveShiftsWhatIsBetween);
        CHECK.sentence("Promise 5: IndexOutOfBounds: also for both places.",
                ListsTest::moveRefusesOtherPlaces);
        CHECK.sentence("Promise 6: Who stands at place i of a person's list; NONE behind it.",
                ListsTest::atTellsWhoOrNone);
        CHECK.sentence("Promise 6: IndexOutOfBounds: also below 0.",
                ListsTest::atRefusesBelowNought);
        CHECK.sentence("Promise 7: The place of another one on a person's list; NONE.",
                ListsTest::placeTellsWhereOrNone);
        CHECK.sentence("Promise 19: How many persons there are.", ListsTest::sizeTellsHowMany);
        CHECK.finish();
    }

    private static void newHasNoPersons() {
        RoommateHouse house = new RoommateHouse();
        CHECK.is("size", 0, house::size);
        CHECK.outOfBounds("partner(0)", () -> house.partner(0));
        CHECK.outOfBounds("at(0, 0)", () -> house.at(0, 0));
        CHECK.outOfBounds("put(0, 0)", () -> house.put(0, 0));
        CHECK.is("blocking", 0, house::blocking);
        CHECK.is("satisfy", -1, house::satisfy);
        CHECK.is("matchings, of which the empty one is stable", 1, house::matchings);
        CHECK.is("parties", 0, () -> house.parties(false));
        CHECK.is("parties of three or more", 0, () -> house.parties(true));
        CHECK.is("astray", 0, house::astray);
        CHECK.is("how many there were", 0, () -> house.people(0));
    }

    private static void peopleStartAnew() {
        RoommateHouse house = Houses.of("12", "20", "01");
        house.pair(0, 1);
        CHECK.is("matchings before", 0, house::matchings);
        CHECK.is("parties before", 1, () -> house.parties(false));
        CHECK.is("as many again", 3, () -> house.people(3));
        CHECK.same("lists are empty", Houses.lists(house), "//");
        CHECK.same("places are gone", Houses.places(house, 0), "---");
        CHECK.same("all are single", Houses.partners(house), "012");
        CHECK.is("matchings are others", 1, house::matchings);
        CHECK.is("parties are others", 3, () -> house.parties(false));
        CHECK.is("to none", 3, () -> house.people(0));
        CHECK.is("from none to one", 0, () -> house.people(1));
        CHECK.is("from one to 8", 1, () -> house.people(8));

        RoommateHouse large = Houses.full(8);
        large.pair(6, 7);
        CHECK.is("from 8 to 2", 8, () -> large.people(2));
        CHECK.is("from 2 to 8", 2, () -> large.people(8));
        CHECK.same("who went comes with an empty list", Houses.lists(large), "///////");
        CHECK.same("who went comes single", Houses.partners(large), "01234567");
    }

    private static void peopleRefusesOtherCounts() {
        RoommateHouse house = new RoommateHouse();
        for (int n = 0; n <= 8; n++) {
            int many = n;
            CHECK.is("people(" + n + ")", Math.max(0, n - 1), () -> house.people(many));
        }
        for (int n : new int[] {-1, 9, -8, 16, 256, LOWEST, HIGHEST}) {
            CHECK.badArgument("people(" + n + ")", () -> house.people(n));
        }
        CHECK.is("size behind them", 8, house::size);
    }

    private static void putAppends() {
        RoommateHouse house = Houses.of("", "", "", "", "", "", "", "");
        for (int i = 1; i <= 7; i++) {
            int other = 8 - i;
            CHECK.is("put number " + i, i, () -> house.put(0, other));
        }
        CHECK.same("a full list", Houses.list(house, 0), "7654321");
        CHECK.same("only this one's list", Houses.lists(house), "7654321///////");
        CHECK.is("the last person's first", 1, () -> house.put(7, 0));
        house.remove(0, 2);
        CHECK.is("put what was removed", 7, () -> house.put(0, 5));
        CHECK.same("it comes behind", Houses.list(house, 0), "7643215");
    }

    private static void putRefusesTheSameOne() {
        RoommateHouse empty = Houses.of("", "", "", "", "", "", "", "");
        RoommateHouse full = Houses.full(8);
        for (int person = 0; person < 8; person++) {
            int who = person;
            CHECK.badArgument("on an empty list", () -> empty.put(who, who));
            CHECK.badArgument("on a full list", () -> full.put(who, who));
        }
        RoommateHouse alone = Houses.of("");
        CHECK.badArgument("the only person", () -> alone.put(0, 0));
    }

    private static void putRefusesWhoIsOnIt() {
        RoommateHouse house = Houses.of("31", "2", "", "0");
        CHECK.badState("the first on it", () -> house.put(0, 3));
        CHECK.badState("the last on it", () -> house.put(0, 1));
        CHECK.badState("the only one on it", () -> house.put(3, 0));
        CHECK.is("on the other one's list alone", 2, () -> house.put(1, 0));
        CHECK.is("not on it any more", 3, () -> house.remove(0, 0));
        CHECK.is("so it may come", 2, () -> house.put(0, 3));
        RoommateHouse full = Houses.full(8);
        for (int other = 1; other < 8; other++) {
            int who = other;
            CHECK.badState("a full list has everybody", () -> full.put(0, who));
        }
    }

    private static void removeTakesOut() {
        RoommateHouse house = Houses.of("31425", "0", "", "", "", "");
        CHECK.is("from the middle", 1, () -> house.remove(0, 1));
        CHECK.same("the gap is closed", Houses.list(house, 0), "3425");
        CHECK.same("so are the places", Houses.places(house, 0), "--2013");
        CHECK.is("from the end", 5, () -> house.remove(0, 3));
        CHECK.is("from the beginning", 3, () -> house.remove(0, 0));
        CHECK.same("two are left", Houses.list(house, 0), "42");
        house.remove(0, 0);
        CHECK.is("the only one", 2, () -> house.remove(0, 0));
        CHECK.same("only this one's list", Houses.lists(house), "/0////");
        RoommateHouse full = Houses.full(8);
        CHECK.is("the end of a full list", 6, () -> full.remove(7, 6));
        CHECK.is("the beginning of a full list", 1, () -> full.remove(0, 0));
    }

    private static void removeRefusesOtherPlaces() {
        RoommateHouse house = Houses.of("12", "0", "");
        for (int i : new int[] {-1, 2, 7, LOWEST, HIGHEST}) {
            CHECK.outOfBounds("remove(0, " + i + ")", () -> house.remove(0, i));
        }
        CHECK.outOfBounds("behind another length", () -> house.remove(1, 1));
        CHECK.outOfBounds("from an empty list", () -> house.remove(2, 0));
        RoommateHouse full = Houses.full(8);
        CHECK.outOfBounds("behind a full list", () -> full.remove(7, 7));
        house.remove(1, 0);
        CHECK.outOfBounds("from a list emptied by then", () -> house.remove(1, 0));
    }

    private static void moveShiftsWhatIsBetween() {
        RoommateHouse house = Houses.of("12345", "", "", "", "", "");
        moved(house, 2, 1, 3, "13425");
        moved(house, 2, 3, 1, "12345");
        moved(house, 1, 0, 4, "23451");
        moved(house, 1, 4, 0, "12345");
        moved(house, 3, 2, 3, "12435");
        moved(house, 3, 3, 2, "12345");
        moved(house, 1, 0, 0, "12345");
        moved(house, 5, 4, 4, "12345");
        moved(house, 3, 2, 2, "12345");
        house.move(0, 1, 3);
        CHECK.same("places go along", Houses.places(house, 0), "-03124");
        RoommateHouse one = Houses.of("1", "");
        moved(one, 1, 0, 0, "1");
        RoommateHouse full = Houses.full(8);
        moved(full, 1, 0, 6, "2345671");
        moved(full, 1, 6, 0, "1234567");
    }

    private static void moved(RoommateHouse house, int who, int i, int j, String list) {
        CHECK.is("move(0, " + i + ", " + j + ")", who, () -> house.move(0, i, j));
        CHECK.same("the list then", Houses.list(house, 0), list);
    }

    private static void moveRefusesOtherPlaces() {
        RoommateHouse house = Houses.of("12", "0", "");
        for (int i : new int[] {-1, 2, 7, LOWEST, HIGHEST}) {
            CHECK.outOfBounds("move(0, " + i + ", 0)", () -> house.move(0, i, 0));
            CHECK.outOfBounds("move(0, 0, " + i + ")", () -> house.move(0, 0, i));
            CHECK.outOfBounds("move(0, " + i + ", " + i + ")", () -> house.move(0, i, i));
        }
        CHECK.outOfBounds("behind another length", () -> house.move(1, 0, 1));
        CHECK.outOfBounds("in an empty list", () -> house.move(2, 0, 0));
        RoommateHouse full = Houses.full(8);
        CHECK.outOfBounds("from behind a full list", () -> full.move(7, 7, 0));
        CHECK.outOfBounds("to behind a full list", () -> full.move(7, 0, 7));
    }

    private static void atTellsWhoOrNone() {
        RoommateHouse house = Houses.of("21", "", "");
        CHECK.is("NONE", -1, () -> RoommateHouse.NONE);
        CHECK.is("the first", 2, () -> house.at(0, 0));
        CHECK.is("the last", 1, () -> house.at(0, 1));
        CHECK.is("right behind", -1, () -> house.at(0, 2));
        CHECK.is("as many as persons may be", -1, () -> house.at(0, 8));
        CHECK.is("far behind", -1, () -> house.at(0, HIGHEST));
        CHECK.is("behind an empty list", -1, () -> house.at(1, 0));
        RoommateHouse full = Houses.full(8);
        CHECK.is("the last of a full list", 6, () -> full.at(7, 6));
        CHECK.is("behind a full list", -1, () -> full.at(7, 7));
        full.remove(7, 0);
        CHECK.is("where one stood", -1, () -> full.at(7, 6));
    }

    private static void atRefusesBelowNought() {
        RoommateHouse house = Houses.of("1", "");
        CHECK.outOfBounds("right below", () -> house.at(0, -1));
        CHECK.outOfBounds("far below", () -> house.at(0, LOWEST));
        CHECK.outOfBounds("below an empty list", () -> house.at(1, -1));
    }

    private static void placeTellsWhereOrNone() {
        RoommateHouse house = Houses.of("21", "", "");
        CHECK.is("of the first", 0, () -> house.place(0, 2));
        CHECK.is("of the last", 1, () -> house.place(0, 1));
        CHECK.is("on the other one's list alone", -1, () -> house.place(1, 0));
        CHECK.is("on nobody's", -1, () -> house.place(1, 2));
        CHECK.is("of itself", -1, () -> house.place(0, 0));
        house.remove(0, 0);
        CHECK.is("not on it any more", -1, () -> house.place(0, 2));
        CHECK.is("gone on by one", 0, () -> house.place(0, 1));
        RoommateHouse full = Houses.full(8);
        CHECK.same("on a full list", Houses.places(full, 7), "0123456-");
    }

    private static void sizeTellsHowMany() {
        RoommateHouse house = new RoommateHouse();
        CHECK.is("at first", 0, house::size);
        house.people(8);
        CHECK.is("the most", 8, house::size);
        house.put(0, 1);
        house.put(1, 0);
        house.pair(0, 1);
        CHECK.is("lists and the draft do not matter", 8, house::size);
        house.people(1);
        CHECK.is("one", 1, house::size);
        house.people(0);
        CHECK.is("none", 0, house::size);
    }
}
