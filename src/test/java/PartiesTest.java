/** Promises 16 to 18: the odd parties. */
public final class PartiesTest {
    private static final Check CHECK = new Check();

    public static void main(String[] args) {
        aloneIsAnOddParty();
        pairsAreNotOdd();
        threeGoRound();
        threeAndOneAlone();
        twoPartiesOfThree();
        fiveAndSevenGoRound();
        oneWayDoesNotCount();
        changesAreSeen();
        wrongPersons();
        CHECK.finish();
    }

    private static void due(RoommateHouse house, String rounds, int parties, int rings) {
        CHECK.same("parties and next ones", Houses.rounds(house), rounds);
        CHECK.is("odd parties", parties, () -> house.parties(false));
        CHECK.is("odd parties of three or more", rings, () -> house.parties(true));
    }

    private static void aloneIsAnOddParty() {
        due(Houses.of(""), "1>0", 1, 0);
        due(Houses.of("", ""), "1>0 1>1", 2, 0);
    }

    private static void pairsAreNotOdd() {
        due(Houses.of("1", "0"), "0>-1 0>-1", 0, 0);
        due(Houses.of("12", "02", "01"), "0>-1 0>-1 1>2", 1, 0);
        due(Houses.of("132", "203", "310", "021"), "0>-1 0>-1 0>-1 0>-1", 0, 0);
    }

    private static void threeGoRound() {
        due(Houses.of("12", "20", "01"), "3>1 3>2 3>0", 1, 1);
        due(Houses.of("21", "02", "10"), "3>2 3>0 3>1", 1, 1);
    }

    private static void threeAndOneAlone() {
        due(Houses.of("123", "203", "013", "012"), "3>1 3>2 3>0 1>3", 2, 1);
        due(Houses.of("34", "2", "1", "40", "03"), "3>3 0>-1 0>-1 3>4 3>0", 1, 1);
    }

    private static void twoPartiesOfThree() {
        due(Houses.of("24", "35", "40", "51", "02", "13"),
                "3>2 3>3 3>4 3>5 3>0 3>1", 2, 2);
    }

    private static void fiveAndSevenGoRound() {
        due(Houses.of("14", "20", "31", "42", "03"), "5>1 5>2 5>3 5>4 5>0", 1, 1);
        due(Houses.of("16", "20", "31", "42", "53", "64", "05", ""),
                "7>1 7>2 7>3 7>4 7>5 7>6 7>0 1>7", 2, 1);
        due(Houses.of("14", "20", "31", "42", "03", "67", "75", "56"),
                "5>1 5>2 5>3 5>4 5>0 3>6 3>7 3>5", 2, 2);
    }

    private static void oneWayDoesNotCount() {
        due(Houses.of("312", "20", "01", ""), "3>1 3>2 3>0 1>3", 2, 1);
        due(Houses.of("12", "20", "1"), "1>0 0>-1 0>-1", 1, 0);
    }

    private static void changesAreSeen() {
        RoommateHouse house = Houses.of("12", "20", "01");
        due(house, "3>1 3>2 3>0", 1, 1);
        house.move(0, 1, 0);
        due(house, "0>-1 1>1 0>-1", 1, 0);
        house.remove(0, 0);
        due(house, "1>0 0>-1 0>-1", 1, 0);
        house.put(0, 2);
        due(house, "3>1 3>2 3>0", 1, 1);
        house.satisfy();
        due(house, "3>1 3>2 3>0", 1, 1);
    }

    private static void wrongPersons() {
        RoommateHouse house = Houses.of("1", "0");
        int[] wrong = {-1, 2, Integer.MIN_VALUE, Integer.MAX_VALUE};
        for (int person : wrong) {
            CHECK.outOfBounds("party", () -> house.party(person));
            CHECK.outOfBounds("next", () -> house.next(person));
        }
    }
}
