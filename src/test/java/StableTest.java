/** Promises 12 to 15: the stable matchings. */
public final class StableTest {
    private static final Check CHECK = new Check();

    public static void main(String[] args) {
        nobodyIsPossible();
        oneWayIsNotPossible();
        aSingleOneIsLeftOver();
        twoMatchings();
        theFirstIsChosenPersonByPerson();
        manyMatchings();
        noneIsStable();
        changesAreSeen();
        wrongPersons();
        CHECK.finish();
    }

    private static void nobodyIsPossible() {
        RoommateHouse house = Houses.of("", "", "");
        CHECK.is("all single is stable", 1, house::matchings);
        CHECK.same("matched", Houses.matching(house), "012");
        CHECK.same("best", Houses.extremes(house, false), "012");
        CHECK.same("worst", Houses.extremes(house, true), "012");
        CHECK.is("single", 1, () -> house.together(2, 2));
        CHECK.is("not together", 0, () -> house.together(1, 2));
    }

    private static void oneWayIsNotPossible() {
        RoommateHouse house = Houses.of("21", "0", "");
        CHECK.is("matchings", 1, house::matchings);
        CHECK.same("matched", Houses.matching(house), "102");
        CHECK.same("best", Houses.extremes(house, false), "102");
        CHECK.is("together", 1, () -> house.together(1, 0));
    }

    private static void aSingleOneIsLeftOver() {
        RoommateHouse house = Houses.of("12", "02", "01");
        CHECK.is("matchings", 1, house::matchings);
        CHECK.same("matched", Houses.matching(house), "102");
        CHECK.same("worst", Houses.extremes(house, true), "102");
        CHECK.is("single", 1, () -> house.together(2, 2));
        CHECK.is("never single", 0, () -> house.together(0, 0));
    }

    private static void twoMatchings() {
        RoommateHouse house = Houses.of("132", "203", "310", "021");
        CHECK.is("matchings", 2, house::matchings);
        CHECK.same("matched", Houses.matching(house), "1032");
        CHECK.same("best", Houses.extremes(house, false), "1230");
        CHECK.same("worst", Houses.extremes(house, true), "3012");
        CHECK.is("together", 1, () -> house.together(0, 3));
        CHECK.is("together the other way", 1, () -> house.together(3, 0));
        CHECK.is("never together", 0, () -> house.together(0, 2));
    }

    private static void theFirstIsChosenPersonByPerson() {
        RoommateHouse later = Houses.of("1", "0", "45", "54", "32", "23");
        CHECK.is("0 and 1 have no choice", 2, later::matchings);
        CHECK.same("2 chooses", Houses.matching(later), "104523");
        RoommateHouse apart = Houses.of("23", "32", "10", "01", "67", "76", "54", "45");
        CHECK.is("two free choices", 4, apart::matchings);
        CHECK.same("0 chooses, then 4", Houses.matching(apart), "23016745");
        CHECK.same("the others' best", Houses.extremes(apart, false), "23106754");
        CHECK.is("each in half of them", 2, () -> apart.together(4, 7));
    }

    private static void manyMatchings() {
        RoommateHouse house = Houses.of("4567", "5476", "6745", "7654",
                "3210", "2301", "1032", "0123");
        CHECK.is("the most for four and four", 10, house::matchings);
        CHECK.same("matched", Houses.matching(house), "45670123");
        CHECK.same("best", Houses.extremes(house, false), "45673210");
        CHECK.same("worst", Houses.extremes(house, true), "76540123");
        int sum = 0;
        for (int other = 0; other < 8; other++) {
            sum += house.together(0, other);
        }
        int all = sum;
        CHECK.is("each has one partner in each", 10, () -> all);
    }

    private static void noneIsStable() {
        RoommateHouse house = Houses.of("123", "203", "013", "012");
        CHECK.is("matchings", 0, house::matchings);
        CHECK.same("matched", Houses.matching(house), "-1-1-1-1");
        CHECK.same("best", Houses.extremes(house, false), "-1-1-1-1");
        CHECK.same("worst", Houses.extremes(house, true), "-1-1-1-1");
        CHECK.is("together", 0, () -> house.together(0, 1));
        CHECK.is("single", 0, () -> house.together(3, 3));
    }

    private static void changesAreSeen() {
        RoommateHouse house = Houses.of("12", "20", "01");
        CHECK.is("none", 0, house::matchings);
        house.move(0, 0, 1);
        CHECK.same("behind move", Houses.matching(house), "210");
        house.remove(0, 0);
        CHECK.same("behind remove", Houses.matching(house), "021");
        house.put(0, 2);
        CHECK.is("behind put", 0, house::matchings);
        house.pair(0, 1);
        CHECK.is("the draft does not matter", 0, house::matchings);
    }

    private static void wrongPersons() {
        RoommateHouse house = Houses.of("1", "0");
        int[] wrong = {-1, 2, Integer.MIN_VALUE, Integer.MAX_VALUE};
        for (int person : wrong) {
            CHECK.outOfBounds("matched", () -> house.matched(person));
            CHECK.outOfBounds("best", () -> house.extreme(person, false));
            CHECK.outOfBounds("worst", () -> house.extreme(person, true));
            CHECK.outOfBounds("together, one", () -> house.together(person, 0));
            CHECK.outOfBounds("together, other", () -> house.together(0, person));
        }
    }
}
