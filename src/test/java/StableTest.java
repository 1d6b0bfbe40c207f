/** Promises 12 to 15: the stable matchings, a test for each sentence. */
public final class StableTest {
    private static final Check CHECK = new Check();

    public static void main(String[] args) {
        CHECK.sentence("Promise 12: How many stable matchings there are.",
                StableTest::matchingsCountsThem);
        CHECK.sentence("Promise 13: A person's partner in the matching",
                StableTest::matchedTellsThePartner);
        CHECK.sentence("Promise 13: itself when it is single there",
                StableTest::matchedTellsItselfWhenSingle);
        CHECK.sentence("Promise 13: NONE when there is no stable one.",
                StableTest::matchedTellsNone);
        CHECK.sentence("Promise 14: The partner that a person prefers of all that it has in "
                + "stable matchings", StableTest::extremeTellsTheBest);
        CHECK.sentence("Promise 14: or (on worst) the last of them",
                StableTest::extremeTellsTheWorst);
        CHECK.sentence("Promise 14: itself when it is single",
                StableTest::extremeTellsItselfWhenSingle);
        CHECK.sentence("Promise 14: NONE when there is no stable one.",
                StableTest::extremeTellsNone);
        CHECK.sentence("Promise 15: In how many stable matchings two are partners",
                StableTest::togetherCountsPartners);
        CHECK.sentence("Promise 15: (a person with itself: single)",
                StableTest::togetherCountsSingle);
        CHECK.sentence("Promises 12 to 15, behind each change of lists",
                StableTest::changesOfListsAreSeen);
        CHECK.sentence("Promises 12 to 15, behind each change of lists, of 8 persons",
                StableTest::changesAreSeenAmongAll);
        CHECK.finish();
    }

    /** Four and four, each side's likings the other one's turned round. */
    private static RoommateHouse fourAndFour() {
        return Houses.of("4567", "5476", "6745", "7654", "3210", "2301", "1032", "0123");
    }

    /** Two ways for four, and each of the two twice. */
    private static RoommateHouse twoByTwo() {
        return Houses.of("23", "32", "10", "01", "67", "76", "54", "45");
    }

    private static RoommateHouse threeGoRoundAndOneIsLast() {
        return Houses.of("123", "203", "013", "012");
    }

    private static void matchingsCountsThem() {
        CHECK.is("no persons: the empty one", 1, () -> new RoommateHouse().matchings());
        CHECK.is("one person: alone", 1, () -> Houses.of("").matchings());
        CHECK.is("8 persons, empty lists: all single", 1,
                () -> Houses.of("", "", "", "", "", "", "", "").matchings());
        CHECK.is("two: together", 1, () -> Houses.of("1", "0").matchings());
        CHECK.is("three that go round", 0, () -> Houses.of("12", "20", "01").matchings());
        CHECK.is("none", 0, () -> threeGoRoundAndOneIsLast().matchings());
        CHECK.is("two", 2, () -> Houses.of("132", "203", "310", "021").matchings());
        CHECK.is("two by two", 4, () -> twoByTwo().matchings());
        CHECK.is("the most for four and four", 10, () -> fourAndFour().matchings());
    }

    private static void matchedTellsThePartner() {
        CHECK.same("of the only one", Houses.matching(Houses.of("12", "02", "01")), "102");
        CHECK.same("of two", Houses.matching(Houses.of("132", "203", "310", "021")), "1032");
        CHECK.same("of four", Houses.matching(twoByTwo()), "23016745");
        CHECK.same("of ten", Houses.matching(fourAndFour()), "45670123");
    }

    private static void matchedTellsItselfWhenSingle() {
        CHECK.same("the only person", Houses.matching(Houses.of("")), "0");
        CHECK.same("all of 8", Houses.matching(Houses.of("", "", "", "", "", "", "", "")),
                "01234567");
        CHECK.same("who is left over", Houses.matching(Houses.of("12", "02", "01")), "102");
        CHECK.same("whom nobody has on its list", Houses.matching(Houses.of("21", "0", "")), "102");
    }

    private static void matchedTellsNone() {
        CHECK.same("who goes round", Houses.matching(Houses.of("12", "20", "01")), "---");
        CHECK.same("others too", Houses.matching(Houses.of("12", "20", "01", "4", "3")), "-----");
        CHECK.same("single ones too", Houses.matching(Houses.of("12", "20", "01", "")), "----");
    }

    private static void extremeTellsTheBest() {
        CHECK.same("of one", Houses.best(Houses.of("12", "02", "01")), "102");
        CHECK.same("of two", Houses.best(Houses.of("132", "203", "310", "021")), "1230");
        CHECK.same("of four", Houses.best(twoByTwo()), "23106754");
        CHECK.same("of ten", Houses.best(fourAndFour()), "45673210");
        CHECK.same("not the best on the list", Houses.best(Houses.of("12", "20", "10")), "021");
    }

    private static void extremeTellsTheWorst() {
        CHECK.same("of one", Houses.worst(Houses.of("12", "02", "01")), "102");
        CHECK.same("of two", Houses.worst(Houses.of("132", "203", "310", "021")), "3012");
        CHECK.same("of four", Houses.worst(twoByTwo()), "32017645");
        CHECK.same("of ten", Houses.worst(fourAndFour()), "76540123");
        CHECK.same("not the last on the list", Houses.worst(Houses.of("12", "20", "10")), "021");
    }

    private static void extremeTellsItselfWhenSingle() {
        RoommateHouse house = Houses.of("21", "0", "", "");
        CHECK.same("best", Houses.best(house), "1023");
        CHECK.same("worst", Houses.worst(house), "1023");
        RoommateHouse leftOver = Houses.of("12", "02", "01");
        CHECK.is("best, with a full list", 2, () -> leftOver.extreme(2, false));
        CHECK.is("worst, with a full list", 2, () -> leftOver.extreme(2, true));
    }

    private static void extremeTellsNone() {
        RoommateHouse house = Houses.of("12", "20", "01", "4", "3", "");
        CHECK.same("best", Houses.best(house), "------");
        CHECK.same("worst", Houses.worst(house), "------");
    }

    private static void togetherCountsPartners() {
        RoommateHouse four = fourAndFour();
        CHECK.same("0 in ten", Houses.together(four, 0), "00002332");
        CHECK.same("7 in ten", Houses.together(four, 7), "23320000");
        RoommateHouse house = Houses.of("132", "203", "310", "021");
        CHECK.is("in one of two", 1, () -> house.together(0, 3));
        CHECK.is("the other way round", 1, () -> house.together(3, 0));
        CHECK.is("in none, though possible", 0, () -> house.together(0, 2));
        CHECK.is("in all", 2, () -> Houses.of("1", "0", "45", "54", "32", "23").together(0, 1));
        CHECK.is("no stable one", 0, () -> threeGoRoundAndOneIsLast().together(0, 1));
    }

    private static void togetherCountsSingle() {
        CHECK.is("the only person", 1, () -> Houses.of("").together(0, 0));
        RoommateHouse house = Houses.of("132", "203", "310", "021", "");
        CHECK.is("single in all", 2, () -> house.together(4, 4));
        CHECK.is("single in none", 0, () -> house.together(0, 0));
        CHECK.is("no stable one", 0, () -> threeGoRoundAndOneIsLast().together(3, 3));
    }

    private static void changesOfListsAreSeen() {
        RoommateHouse house = Houses.of("12", "20", "01");
        CHECK.is("none", 0, house::matchings);
        house.move(0, 0, 1);
        told("behind move", house, 1, "210", "010");
        house.remove(0, 0);
        told("behind remove", house, 1, "021", "001");
        house.put(0, 2);
        told("behind put", house, 0, "---", "000");
        house.pair(0, 1);
        house.satisfy();
        told("the draft does not matter", house, 0, "---", "000");
        house.people(3);
        told("behind people", house, 1, "012", "010");
        house.put(0, 2);
        house.put(2, 0);
        told("with shorter lists than before", house, 1, "210", "010");
    }

    /** For houses that have at most one stable matching, which is then everybody's extreme too. */
    private static void told(String when, RoommateHouse house, int many, String mates,
            String together) {
        CHECK.is(when + ", matchings", many, house::matchings);
        CHECK.same(when + ", matched", Houses.matching(house), mates);
        CHECK.same(when + ", best", Houses.best(house), mates);
        CHECK.same(when + ", worst", Houses.worst(house), mates);
        CHECK.same(when + ", together with 1", Houses.together(house, 1), together);
    }

    private static void changesAreSeenAmongAll() {
        RoommateHouse house = fourAndFour();
        CHECK.same("0 in ten", Houses.together(house, 0), "00002332");
        CHECK.same("3 in ten", Houses.together(house, 3), "00002332");
        house.move(0, 3, 0);
        CHECK.is("0 and 7 would have each other first", 3, house::matchings);
        CHECK.same("0 in three", Houses.together(house, 0), "00000003");
        CHECK.same("3 in three", Houses.together(house, 3), "00001110");
        CHECK.same("7 in three", Houses.together(house, 7), "30000000");
        house.people(8);
        CHECK.is("behind people", 1, house::matchings);
        CHECK.same("all are single", Houses.together(house, 0), "10000000");
        CHECK.same("the last person too", Houses.together(house, 7), "00000001");
    }
}
