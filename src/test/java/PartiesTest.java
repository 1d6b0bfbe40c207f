/** Promises 16 to 18: the odd parties, a test for each sentence. */
public final class PartiesTest {
    private static final Check CHECK = new Check();

    public static void main(String[] args) {
        CHECK.sentence("Promise 16: How many are in a person's odd party",
                PartiesTest::partyTellsHowMany);
        CHECK.sentence("Promise 16: 0 when it is in none.", PartiesTest::partyTellsNought);
        CHECK.sentence("Promise 17: The next one in a person's odd party",
                PartiesTest::nextTellsWho);
        CHECK.sentence("Promise 17: NONE when it is in none.", PartiesTest::nextTellsNone);
        CHECK.sentence("Promise 18: How many odd parties there are", PartiesTest::partiesCountsAll);
        CHECK.sentence("Promise 18: or (on three) odd parties of three or more.",
                PartiesTest::partiesCountsThreeOrMore);
        CHECK.sentence("Promises 16 to 18, behind each change of lists",
                PartiesTest::changesOfListsAreSeen);
        CHECK.finish();
    }

    private static RoommateHouse nobodyPossible() {
        return Houses.of("", "", "", "", "", "", "", "");
    }

    private static RoommateHouse fiveAndThree() {
        return Houses.of("14", "20", "31", "42", "03", "67", "75", "56");
    }

    private static RoommateHouse sevenAndOne() {
        return Houses.of("16", "20", "31", "42", "53", "64", "05", "");
    }

    /** All go round as eight or as pairs: each would rather have who comes behind it. */
    private static RoommateHouse eight() {
        return Houses.of("17", "20", "31", "42", "53", "64", "75", "06");
    }

    private static RoommateHouse threeTwoAndOne() {
        return Houses.of("34", "2", "1", "40", "03", "");
    }

    private static void partyTellsHowMany() {
        CHECK.same("the only person", Houses.partySizes(Houses.of("")), "1");
        CHECK.same("8 alone", Houses.partySizes(nobodyPossible()), "11111111");
        CHECK.same("three", Houses.partySizes(Houses.of("12", "20", "01")), "333");
        CHECK.same("five and three", Houses.partySizes(fiveAndThree()), "55555333");
        CHECK.same("seven, the most, and one", Houses.partySizes(sevenAndOne()), "77777771");
    }

    private static void partyTellsNought() {
        CHECK.same("two", Houses.partySizes(Houses.of("1", "0")), "00");
        CHECK.same("four", Houses.partySizes(Houses.of("13", "20", "31", "02")), "0000");
        CHECK.same("eight", Houses.partySizes(eight()), "00000000");
        CHECK.same("two of six", Houses.partySizes(threeTwoAndOne()), "300331");
    }

    private static void nextTellsWho() {
        CHECK.same("itself alone", Houses.nextOnes(Houses.of("")), "0");
        CHECK.same("8 alone", Houses.nextOnes(nobodyPossible()), "01234567");
        CHECK.same("round to the first", Houses.nextOnes(Houses.of("12", "20", "01")), "120");
        CHECK.same("the other way round", Houses.nextOnes(Houses.of("21", "02", "10")), "201");
        CHECK.same("five and three", Houses.nextOnes(fiveAndThree()), "12340675");
        CHECK.same("seven and one", Houses.nextOnes(sevenAndOne()), "12345607");
    }

    private static void nextTellsNone() {
        CHECK.same("two", Houses.nextOnes(Houses.of("1", "0")), "--");
        CHECK.same("four", Houses.nextOnes(Houses.of("13", "20", "31", "02")), "----");
        CHECK.same("eight", Houses.nextOnes(eight()), "--------");
        CHECK.same("two of six", Houses.nextOnes(threeTwoAndOne()), "3--405");
    }

    private static void partiesCountsAll() {
        CHECK.is("no persons", 0, () -> new RoommateHouse().parties(false));
        CHECK.is("one person", 1, () -> Houses.of("").parties(false));
        CHECK.is("8 alone, the most", 8, () -> nobodyPossible().parties(false));
        CHECK.is("two", 0, () -> Houses.of("1", "0").parties(false));
        CHECK.is("eight", 0, () -> eight().parties(false));
        CHECK.is("three, two and one", 2, () -> threeTwoAndOne().parties(false));
        CHECK.is("five and three", 2, () -> fiveAndThree().parties(false));
        CHECK.is("seven and one", 2, () -> sevenAndOne().parties(false));
    }

    private static void partiesCountsThreeOrMore() {
        CHECK.is("no persons", 0, () -> new RoommateHouse().parties(true));
        CHECK.is("8 alone", 0, () -> nobodyPossible().parties(true));
        CHECK.is("eight", 0, () -> eight().parties(true));
        CHECK.is("just three", 1, () -> Houses.of("12", "20", "01").parties(true));
        CHECK.is("twice three, mixed", 2,
                () -> Houses.of("24", "35", "40", "51", "02", "13").parties(true));
        CHECK.is("three, two and one", 1, () -> threeTwoAndOne().parties(true));
        CHECK.is("five and three", 2, () -> fiveAndThree().parties(true));
        CHECK.is("seven and one", 1, () -> sevenAndOne().parties(true));
    }

    private static void changesOfListsAreSeen() {
        RoommateHouse house = Houses.of("12", "20", "01");
        told("at first", house, "333", "120", 1, 1);
        house.move(0, 1, 0);
        told("behind move", house, "010", "-1-", 1, 0);
        house.remove(0, 0);
        told("behind remove", house, "100", "0--", 1, 0);
        house.put(0, 2);
        told("behind put", house, "333", "120", 1, 1);
        house.pair(0, 1);
        house.satisfy();
        told("the draft does not matter", house, "333", "120", 1, 1);
        house.people(3);
        told("behind people", house, "111", "012", 3, 0);
        house.put(0, 2);
        house.put(2, 0);
        told("with shorter lists than before", house, "010", "-1-", 1, 0);
    }

    private static void told(String when, RoommateHouse house, String sizes, String nextOnes,
            int all, int ofThree) {
        CHECK.same(when + ", party", Houses.partySizes(house), sizes);
        CHECK.same(when + ", next", Houses.nextOnes(house), nextOnes);
        CHECK.is(when + ", parties", all, () -> house.parties(false));
        CHECK.is(when + ", parties of three or more", ofThree, () -> house.parties(true));
    }
}
