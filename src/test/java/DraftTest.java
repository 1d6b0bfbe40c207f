/** Promises 8 to 11 and 20: the draft. */
public final class DraftTest {
    private static final Check CHECK = new Check();

    public static void main(String[] args) {
        pairAnswersWhatBlocksThen();
        pairFreesWhoWasTheirs();
        pairRefuses();
        partnerRefuses();
        changedListsPartWhoIsNotPossible();
        blockingCountsPairsOnce();
        onlyPossibleOnesBlock();
        satisfyTakesTheFirstPair();
        satisfyGoesRoundAnOddParty();
        astrayIsAlwaysNought();
        CHECK.finish();
    }

    private static void pairAnswersWhatBlocksThen() {
        RoommateHouse house = Houses.of("123", "203", "013", "012");
        CHECK.is("all single: every pair blocks", 6, house::blocking);
        CHECK.is("pair(0, 1)", 2, () -> house.pair(0, 1));
        CHECK.same("partners", Houses.partners(house), "1023");
        CHECK.is("pair(3, 2)", 1, () -> house.pair(3, 2));
        CHECK.same("both pairs", Houses.partners(house), "1032");
        CHECK.is("pair(1, 0) again", 1, () -> house.pair(1, 0));
        CHECK.same("partners again are partners", Houses.partners(house), "1032");
    }

    private static void pairFreesWhoWasTheirs() {
        RoommateHouse house = Houses.of("123", "203", "013", "012");
        house.pair(0, 1);
        house.pair(2, 3);
        CHECK.is("pair(1, 2)", 2, () -> house.pair(1, 2));
        CHECK.same("both former ones are single", Houses.partners(house), "0213");
        CHECK.is("pair(0, 2)", 2, () -> house.pair(0, 2));
        CHECK.same("one former one is single", Houses.partners(house), "2103");
    }

    private static void pairRefuses() {
        RoommateHouse house = Houses.of("12", "0", "");
        house.pair(0, 1);
        String before = Houses.all(house);
        CHECK.outOfBounds("pair(-1, 0)", () -> house.pair(-1, 0));
        CHECK.outOfBounds("pair(0, 3)", () -> house.pair(0, 3));
        CHECK.outOfBounds("pair(3, 3): the first exception", () -> house.pair(3, 3));
        CHECK.badArgument("pair(1, 1)", () -> house.pair(1, 1));
        CHECK.badState("one way only", () -> house.pair(0, 2));
        CHECK.badState("the other way only", () -> house.pair(2, 0));
        CHECK.badState("no way", () -> house.pair(1, 2));
        CHECK.same("refused pair changes nothing", Houses.all(house), before);
    }

    private static void partnerRefuses() {
        RoommateHouse house = Houses.of("1", "0");
        CHECK.is("single is its own partner", 1, () -> house.partner(1));
        CHECK.outOfBounds("partner(-1)", () -> house.partner(-1));
        CHECK.outOfBounds("partner(2)", () -> house.partner(2));
    }

    private static void changedListsPartWhoIsNotPossible() {
        RoommateHouse house = Houses.of("12", "02", "10");
        house.pair(0, 1);
        house.remove(0, 1);
        CHECK.same("another one removed", Houses.partners(house), "102");
        house.move(1, 0, 1);
        CHECK.same("a partner moved", Houses.partners(house), "102");
        house.remove(1, 1);
        CHECK.same("a partner's partner removed", Houses.partners(house), "012");
        house.put(1, 0);
        CHECK.same("put again they stay single", Houses.partners(house), "012");
        house.pair(1, 0);
        house.remove(1, 1);
        CHECK.same("a partner removed", Houses.partners(house), "012");
    }

    private static void blockingCountsPairsOnce() {
        RoommateHouse house = Houses.of("1", "0", "");
        CHECK.is("two single ones block", 1, house::blocking);
        house.pair(0, 1);
        CHECK.is("partners do not block", 0, house::blocking);
        RoommateHouse other = Houses.of("213", "032", "301", "120");
        other.pair(0, 1);
        other.pair(2, 3);
        CHECK.is("only one of two would rather", 0, other::blocking);
        other.pair(0, 3);
        CHECK.is("single ones block with all that like them better", 5, other::blocking);
        other.pair(2, 1);
        CHECK.is("both would rather", 4, other::blocking);
        other.move(0, 2, 0);
        CHECK.is("behind a move", 2, other::blocking);
    }

    private static void onlyPossibleOnesBlock() {
        RoommateHouse house = Houses.of("21", "0", "");
        CHECK.is("one on the list is not possible", 1, house::blocking);
        house.pair(0, 1);
        CHECK.is("who is not possible is not preferred", 0, house::blocking);
        house.put(2, 0);
        CHECK.is("now it is possible", 1, house::blocking);
    }

    private static void satisfyTakesTheFirstPair() {
        RoommateHouse house = Houses.of("", "67", "7", "", "", "", "1", "21");
        CHECK.is("three block", 3, house::blocking);
        CHECK.is("least lesser, least greater", 14, house::satisfy);
        CHECK.same("they are partners", Houses.partners(house), "06234517");
        CHECK.is("then the next", 23, house::satisfy);
        CHECK.same("they too", Houses.partners(house), "06734512");
        CHECK.is("none blocks", -1, house::satisfy);
        CHECK.same("nothing changed", Houses.partners(house), "06734512");
    }

    private static void satisfyGoesRoundAnOddParty() {
        RoommateHouse house = Houses.of("12", "20", "01");
        int[] due = {1, 10, 2, 1, 10, 2};
        for (int answer : due) {
            CHECK.is("round an odd party", answer, house::satisfy);
        }
        CHECK.same("who was theirs is single", Houses.partners(house), "210");
    }

    private static void astrayIsAlwaysNought() {
        RoommateHouse house = Houses.of("123", "203", "013", "012");
        CHECK.is("all single", 0, house::astray);
        house.pair(0, 1);
        house.pair(2, 3);
        CHECK.is("all in pairs", 0, house::astray);
        house.pair(0, 3);
        CHECK.is("pairs changed", 0, house::astray);
        house.remove(0, 2);
        CHECK.is("not possible any more", 0, house::astray);
        house.satisfy();
        CHECK.is("satisfied", 0, house::astray);
        house.people(8);
        CHECK.is("anew", 0, house::astray);
    }
}
