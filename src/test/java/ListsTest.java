/** Promises 1 to 7 and 19: persons and their lists. */
public final class ListsTest {
    private static final Check CHECK = new Check();

    public static void main(String[] args) {
        aNewObjectHasNoPersons();
        peopleStartAnew();
        peopleRefusesOtherCounts();
        putAppends();
        putRefuses();
        removeClosesTheGap();
        removeRefuses();
        moveShiftsWhatIsBetween();
        moveRefuses();
        atTellsWhoOrNone();
        placeTellsWhereOrNone();
        CHECK.finish();
    }

    private static void aNewObjectHasNoPersons() {
        CHECK.is("NONE", -1, () -> RoommateHouse.NONE);
        RoommateHouse house = new RoommateHouse();
        CHECK.is("size of a new one", 0, house::size);
        CHECK.is("blocking of a new one", 0, house::blocking);
        CHECK.is("satisfy of a new one", -1, house::satisfy);
        CHECK.is("matchings of a new one", 1, house::matchings);
        CHECK.is("parties of a new one", 0, () -> house.parties(false));
        CHECK.is("rings of a new one", 0, () -> house.parties(true));
        CHECK.is("astray of a new one", 0, house::astray);
        CHECK.outOfBounds("partner in a new one", () -> house.partner(0));
        CHECK.outOfBounds("at in a new one", () -> house.at(0, 0));
        CHECK.is("first people", 0, () -> house.people(3));
    }

    private static void peopleStartAnew() {
        RoommateHouse house = Houses.of("12", "20", "01");
        house.pair(0, 1);
        CHECK.is("no matching is stable before", 0, house::matchings);
        CHECK.is("one odd party before", 1, () -> house.parties(false));
        CHECK.is("people answers the count before", 3, () -> house.people(3));
        CHECK.is("size stays", 3, house::size);
        for (int person = 0; person < 3; person++) {
            int who = person;
            CHECK.same("list is empty", Houses.list(house, who), "");
            CHECK.is("place is forgotten", -1, () -> house.place(who, (who + 1) % 3));
            CHECK.is("single again", who, () -> house.partner(who));
        }
        CHECK.is("matchings are reckoned anew", 1, house::matchings);
        CHECK.is("parties are reckoned anew", 3, () -> house.parties(false));
        CHECK.is("to 8", 3, () -> house.people(8));
        CHECK.is("8 persons", 8, house::size);
        CHECK.is("the last person", 7, () -> house.partner(7));
        CHECK.is("to 0", 8, () -> house.people(0));
        CHECK.is("0 persons", 0, house::size);
    }

    private static void peopleRefusesOtherCounts() {
        RoommateHouse house = Houses.of("1", "0");
        house.pair(0, 1);
        String before = Houses.all(house);
        int[] refused = {-1, 9, Integer.MIN_VALUE, Integer.MAX_VALUE};
        for (int n : refused) {
            CHECK.badArgument("people(" + n + ")", () -> house.people(n));
        }
        CHECK.same("refused people change nothing", Houses.all(house), before);
    }

    private static void putAppends() {
        RoommateHouse house = new RoommateHouse();
        house.people(8);
        for (int i = 1; i < 8; i++) {
            int other = 8 - i;
            CHECK.is("put number " + i, i, () -> house.put(0, other));
        }
        CHECK.same("the longest list", Houses.list(house, 0), "7654321");
        CHECK.same("the other one's list", Houses.list(house, 7), "");
        CHECK.is("put the other way", 1, () -> house.put(7, 0));
    }

    private static void putRefuses() {
        RoommateHouse house = Houses.of("1", "", "");
        String before = Houses.all(house);
        CHECK.outOfBounds("put(-1, 0)", () -> house.put(-1, 0));
        CHECK.outOfBounds("put(3, 0)", () -> house.put(3, 0));
        CHECK.outOfBounds("put(0, -1)", () -> house.put(0, -1));
        CHECK.outOfBounds("put(0, 3)", () -> house.put(0, 3));
        CHECK.outOfBounds("put(3, 3): the first exception", () -> house.put(3, 3));
        CHECK.badArgument("put(0, 0)", () -> house.put(0, 0));
        CHECK.badState("put(0, 1)", () -> house.put(0, 1));
        CHECK.same("refused put changes nothing", Houses.all(house), before);
    }

    private static void removeClosesTheGap() {
        RoommateHouse house = Houses.of("3142", "", "", "", "");
        CHECK.is("remove in the middle", 1, () -> house.remove(0, 1));
        CHECK.same("behind it", Houses.list(house, 0), "342");
        CHECK.is("place behind remove", 1, () -> house.place(0, 4));
        CHECK.is("place of the removed one", -1, () -> house.place(0, 1));
        CHECK.is("remove the last", 2, () -> house.remove(0, 2));
        CHECK.is("remove the first", 3, () -> house.remove(0, 0));
        CHECK.is("remove the only one", 4, () -> house.remove(0, 0));
        CHECK.same("all removed", Houses.list(house, 0), "");
        CHECK.is("put it again", 1, () -> house.put(0, 1));
    }

    private static void removeRefuses() {
        RoommateHouse house = Houses.of("12", "0", "");
        house.pair(0, 1);
        String before = Houses.all(house);
        CHECK.outOfBounds("remove(-1, 0)", () -> house.remove(-1, 0));
        CHECK.outOfBounds("remove(3, 0)", () -> house.remove(3, 0));
        CHECK.outOfBounds("remove(0, -1)", () -> house.remove(0, -1));
        CHECK.outOfBounds("remove(0, 2)", () -> house.remove(0, 2));
        CHECK.outOfBounds("remove(2, 0)", () -> house.remove(2, 0));
        CHECK.outOfBounds("remove far", () -> house.remove(0, Integer.MAX_VALUE));
        CHECK.same("refused remove changes nothing", Houses.all(house), before);
    }

    private static void moveShiftsWhatIsBetween() {
        RoommateHouse house = Houses.of("12345", "", "", "", "", "");
        CHECK.is("move on", 2, () -> house.move(0, 1, 3));
        CHECK.same("moved on", Houses.list(house, 0), "13425");
        CHECK.is("move back", 5, () -> house.move(0, 4, 0));
        CHECK.same("moved back", Houses.list(house, 0), "51342");
        CHECK.is("move nowhere", 3, () -> house.move(0, 2, 2));
        CHECK.same("moved nowhere", Houses.list(house, 0), "51342");
        CHECK.is("move first to last", 5, () -> house.move(0, 0, 4));
        CHECK.same("moved first to last", Houses.list(house, 0), "13425");
        for (int i = 0; i < 5; i++) {
            int where = i;
            CHECK.is("place agrees with at", i, () -> house.place(0, house.at(0, where)));
        }
    }

    private static void moveRefuses() {
        RoommateHouse house = Houses.of("12", "0", "");
        String before = Houses.all(house);
        CHECK.outOfBounds("move(-1, 0, 0)", () -> house.move(-1, 0, 0));
        CHECK.outOfBounds("move(3, 0, 0)", () -> house.move(3, 0, 0));
        CHECK.outOfBounds("move(0, -1, 0)", () -> house.move(0, -1, 0));
        CHECK.outOfBounds("move(0, 2, 0)", () -> house.move(0, 2, 0));
        CHECK.outOfBounds("move(0, 0, -1)", () -> house.move(0, 0, -1));
        CHECK.outOfBounds("move(0, 0, 2)", () -> house.move(0, 0, 2));
        CHECK.outOfBounds("move(2, 0, 0)", () -> house.move(2, 0, 0));
        CHECK.same("refused move changes nothing", Houses.all(house), before);
    }

    private static void atTellsWhoOrNone() {
        RoommateHouse house = Houses.of("21", "", "");
        CHECK.is("at 0", 2, () -> house.at(0, 0));
        CHECK.is("at 1", 1, () -> house.at(0, 1));
        CHECK.is("at the end", -1, () -> house.at(0, 2));
        CHECK.is("far behind the end", -1, () -> house.at(0, Integer.MAX_VALUE));
        CHECK.is("at 0 of an empty list", -1, () -> house.at(1, 0));
        CHECK.outOfBounds("at -1", () -> house.at(0, -1));
        CHECK.outOfBounds("at far below", () -> house.at(0, Integer.MIN_VALUE));
        CHECK.outOfBounds("at of nobody", () -> house.at(3, 0));
        CHECK.outOfBounds("at of nobody below", () -> house.at(-1, 0));
    }

    private static void placeTellsWhereOrNone() {
        RoommateHouse house = Houses.of("21", "", "");
        CHECK.is("place of the first", 0, () -> house.place(0, 2));
        CHECK.is("place of the second", 1, () -> house.place(0, 1));
        CHECK.is("place of one not on it", -1, () -> house.place(1, 0));
        CHECK.is("place of itself", -1, () -> house.place(0, 0));
        CHECK.outOfBounds("place(3, 0)", () -> house.place(3, 0));
        CHECK.outOfBounds("place(0, 3)", () -> house.place(0, 3));
        CHECK.outOfBounds("place(-1, 0)", () -> house.place(-1, 0));
        CHECK.outOfBounds("place(0, -1)", () -> house.place(0, -1));
    }
}
