/** What the document says before its promises, a test for each sentence. */
public final class TermsTest {
    private static final Check CHECK = new Check();

    public static void main(String[] args) {
        CHECK.sentence("An object is used for at most 512 calls after it has been made",
                TermsTest::anObjectLastsForAllItsCalls);
        CHECK.sentence("Terms: each has a LIST of others, first empty.",
                TermsTest::listsAreFirstEmpty);
        CHECK.sentence("Terms: Two are POSSIBLE, if each is on the other one's list.",
                TermsTest::possibleIsWhoIsOnEachOthersList);
        CHECK.sentence("Terms: A person PREFERS one to another one, if both are possible with it",
                TermsTest::onlyPossibleOnesArePreferred);
        CHECK.sentence("Terms: and the one stands before the other on its list",
                TermsTest::whoStandsBeforeIsPreferred);
        CHECK.sentence("Terms: everyone possible to itself, which is being SINGLE.",
                TermsTest::anyoneIsPreferredToBeingSingle);
        CHECK.sentence("Terms: A MATCHING gives some persons PARTNERS, each other's, possible "
                + "ones; all others are single, that is, their own partners.",
                TermsTest::partnersAreEachOthers);
        CHECK.sentence("Terms: Two possible ones that are not partners BLOCK it, if each prefers "
                + "the other one to its partner.", TermsTest::onlyBothTogetherBlock);
        CHECK.sentence("Terms: It is STABLE, if none block it.", TermsTest::noneBlocksAStableOne);
        CHECK.sentence("Terms: THE MATCHING is the first of the stable ones: that in which person "
                + "0 has the partner that it prefers of all that it has in them (itself last), "
                + "of these likewise 1, and so on.", TermsTest::theMatchingIsTheFirst);
        CHECK.sentence("Terms: each person has a NEXT one, and is the next one of one, its LAST "
                + "one (both perhaps itself)", TermsTest::eachIsTheNextOneOfOne);
        CHECK.sentence("Terms: so that these are possible, or itself",
                TermsTest::nextOnesArePossible);
        CHECK.sentence("Terms: no one prefers its last one to its next one",
                TermsTest::noOneHasABetterLastOne);
        CHECK.sentence("Terms: and there are no two possible ones, each of which prefers the "
                + "other to its last one.", TermsTest::noTwoWouldRather);
        CHECK.sentence("Terms: A PARTY is who comes one behind the other, round; it is ODD by how "
                + "many they are.", TermsTest::aPartyGoesRound);
        CHECK.sentence("Terms: Whatever the partition, the odd parties are the same, with the "
                + "same next ones", TermsTest::oddPartiesAreTheSame);
        CHECK.sentence("Terms: Somebody alone is an odd party of one.",
                TermsTest::somebodyAloneIsOdd);
        CHECK.sentence("Terms: THE DRAFT is a matching, at first all are single",
                TermsTest::theDraftIsFirstSingle);
        CHECK.sentence("Terms: behind each change of lists, partners that are not possible any "
                + "more are single.", TermsTest::notPossibleAnyMoreIsSingle);
        CHECK.finish();
    }

    private static void anObjectLastsForAllItsCalls() {
        RoommateHouse house = Houses.of("12", "20", "01");
        for (int call = 8; call < 512; call += 2) {
            house.move(0, 0, 1);
            CHECK.is("call " + (call + 1), call % 4 == 0 ? 1 : 0, house::matchings);
        }
        CHECK.is("call 512", 3, () -> house.party(2));
        for (int moves = 1; moves <= 503; moves++) {
            seenBehind(moves);
        }
    }

    /** However many changes come between two questions, the second one is answered anew. */
    private static void seenBehind(int moves) {
        RoommateHouse house = Houses.of("12", "20", "01");
        CHECK.is("no stable one", -1, () -> house.matched(1));
        for (int move = 1; move < moves; move++) {
            house.move(0, 0, 1);
        }
        house.move(1, 0, 1);
        CHECK.is("behind " + moves + " moves", moves % 2 == 1 ? 0 : 1, () -> house.matched(1));
    }

    private static void listsAreFirstEmpty() {
        RoommateHouse house = new RoommateHouse();
        house.people(8);
        CHECK.same("lists", Houses.lists(house), "///////");
        CHECK.is("at", -1, () -> house.at(7, 0));
        CHECK.is("place", -1, () -> house.place(7, 0));
        CHECK.is("put", 1, () -> house.put(7, 0));
    }

    private static void possibleIsWhoIsOnEachOthersList() {
        RoommateHouse house = Houses.of("1", "", "");
        CHECK.badState("on one list", () -> house.pair(0, 1));
        CHECK.is("nor do they block", 0, house::blocking);
        CHECK.same("nor are they matched", Houses.matching(house), "012");
        CHECK.same("nor in a party", Houses.partySizes(house), "111");
        house.put(1, 0);
        CHECK.is("on both lists they block", 1, house::blocking);
        CHECK.same("and are matched", Houses.matching(house), "102");
        CHECK.same("and in a party", Houses.partySizes(house), "001");
        CHECK.is("and can be partners", 0, () -> house.pair(1, 0));
        house.remove(0, 0);
        CHECK.is("on one list again", 0, house::blocking);
        CHECK.same("nor matched again", Houses.matching(house), "012");
    }

    private static void onlyPossibleOnesArePreferred() {
        RoommateHouse house = Houses.of("21", "0", "");
        house.pair(0, 1);
        CHECK.is("2 is first on 0's list, but not possible", 0, house::blocking);
        CHECK.same("so 0 is content with 1", Houses.matching(house), "102");
        house.put(2, 0);
        CHECK.is("possible by now", 1, house::blocking);
        CHECK.same("so 0 would have 2", Houses.matching(house), "210");
    }

    private static void whoStandsBeforeIsPreferred() {
        RoommateHouse house = Houses.of("1234567", "0", "0", "0", "0", "0", "0", "0");
        for (int other = 1; other < 8; other++) {
            int who = other;
            CHECK.is("with " + other, other - 1, () -> house.pair(0, who));
        }
        house.move(0, 6, 0);
        CHECK.is("7 is first by now", 0, house::blocking);
        house.move(0, 0, 1);
        CHECK.is("7 is second by now", 1, house::blocking);
    }

    private static void anyoneIsPreferredToBeingSingle() {
        RoommateHouse house = Houses.of("1234567", "", "", "", "", "", "", "1234560");
        CHECK.is("even the last of a full list", 7, house::satisfy);
        CHECK.is("and being single is not preferred back", 0, house::blocking);
        CHECK.same("matched", Houses.matching(house), "71234560");
        CHECK.same("in an even party", Houses.partySizes(house), "01111110");
    }

    private static void partnersAreEachOthers() {
        RoommateHouse house = Houses.of("12", "023", "01", "1");
        house.pair(0, 1);
        CHECK.same("some, in the draft", Houses.partners(house), "1023");
        house.pair(1, 3);
        CHECK.same("others, in the draft", Houses.partners(house), "0321");
        house.pair(0, 2);
        CHECK.same("all, in the draft", Houses.partners(house), "2301");
        CHECK.same("some, in the matching", Houses.matching(house), "1023");
    }

    private static void onlyBothTogetherBlock() {
        RoommateHouse partners = Houses.of("1", "0");
        partners.pair(0, 1);
        CHECK.is("partners", 0, partners::blocking);
        RoommateHouse oneSided = Houses.of("21", "0", "30", "2");
        oneSided.pair(0, 1);
        oneSided.pair(2, 3);
        CHECK.is("only the one would rather", 0, oneSided::blocking);
        oneSided.move(2, 1, 0);
        CHECK.is("both would rather", 1, oneSided::blocking);
        oneSided.move(0, 1, 0);
        CHECK.is("only the other would rather", 0, oneSided::blocking);
        RoommateHouse three = Houses.of("12", "0", "0");
        three.pair(0, 2);
        CHECK.is("a single one with who would rather", 1, three::blocking);
        three.pair(0, 1);
        CHECK.is("a single one with who would not", 0, three::blocking);
    }

    private static void noneBlocksAStableOne() {
        RoommateHouse house = Houses.of("132", "203", "310", "021");
        CHECK.is("two stable ones", 2, house::matchings);
        house.pair(0, 1);
        CHECK.is("the one", 0, () -> house.pair(2, 3));
        house.pair(0, 3);
        CHECK.is("the other", 0, () -> house.pair(1, 2));
        house.pair(0, 2);
        CHECK.is("a third that is none", 4, () -> house.pair(1, 3));
        CHECK.is("so it does not count", 0, () -> house.together(0, 2));
        RoommateHouse three = Houses.of("12", "20", "01");
        CHECK.is("1 would rather have 2", 1, () -> three.pair(0, 1));
        CHECK.is("2 would rather have 0", 1, () -> three.pair(1, 2));
        CHECK.is("0 would rather have 1", 1, () -> three.pair(2, 0));
        CHECK.is("so none is stable", 0, three::matchings);
    }

    private static void theMatchingIsTheFirst() {
        CHECK.same("0 chooses", Houses.matching(Houses.of("23", "32", "10", "01")), "2301");
        CHECK.same("0 chooses otherwise", Houses.matching(Houses.of("32", "23", "01", "10")),
                "3210");
        CHECK.same("0 is single, 1 chooses",
                Houses.matching(Houses.of("1", "34", "43", "21", "12")), "03412");
        CHECK.same("0 and 1 have no choice, 2 chooses",
                Houses.matching(Houses.of("1", "0", "45", "54", "32", "23")), "104523");
        CHECK.same("0 chooses, then 4 chooses",
                Houses.matching(Houses.of("23", "32", "10", "01", "76", "67", "45", "54")),
                "23017654");
        CHECK.same("the fifth, where four are single",
                Houses.matching(Houses.of("", "", "", "", "67", "76", "54", "45")), "01236745");
    }

    private static void eachIsTheNextOneOfOne() {
        CHECK.same("three and three, in turn",
                Houses.nextOnes(Houses.of("24", "35", "40", "51", "02", "13")), "234501");
        CHECK.same("itself", Houses.nextOnes(Houses.of("12", "02", "01")), "--2");
        CHECK.same("liked by all, but the next one of one",
                Houses.nextOnes(Houses.of("123", "203", "013", "012")), "1203");
    }

    private static void nextOnesArePossible() {
        CHECK.same("3 is first on 0's list, but not possible",
                Houses.nextOnes(Houses.of("312", "20", "01", "")), "1203");
        CHECK.same("0 is first on 2's list, but not possible",
                Houses.nextOnes(Houses.of("1", "20", "01")), "0--");
        CHECK.same("each has the next one on its list, none the last one",
                Houses.nextOnes(Houses.of("1", "2", "0")), "012");
    }

    private static void noOneHasABetterLastOne() {
        CHECK.same("three", Houses.nextOnes(Houses.of("12", "20", "01")), "120");
        CHECK.same("three, back", Houses.nextOnes(Houses.of("21", "02", "10")), "201");
        CHECK.same("five", Houses.nextOnes(Houses.of("14", "20", "31", "42", "03")), "12340");
        CHECK.same("five, back", Houses.nextOnes(Houses.of("41", "02", "13", "24", "30")), "40123");
        CHECK.same("2 would have a better last one", Houses.nextOnes(Houses.of("21", "20", "01")),
                "-1-");
    }

    private static void noTwoWouldRather() {
        CHECK.same("two do not stay alone", Houses.nextOnes(Houses.of("1", "0")), "--");
        CHECK.same("none of three would rather have 3",
                Houses.nextOnes(Houses.of("123", "203", "013", "012")), "1203");
        CHECK.same("0 would rather have 3 than its last one",
                Houses.nextOnes(Houses.of("132", "203", "013", "012")), "----");
        CHECK.same("0 would rather have 3, but 3 has 4",
                Houses.nextOnes(Houses.of("132", "20", "01", "40", "3")), "120--");
    }

    private static void aPartyGoesRound() {
        RoommateHouse house = Houses.of("16", "20", "31", "42", "53", "64", "05", "");
        for (int person = 0; person < 7; person++) {
            CHECK.same("seven steps from " + person, steps(house, person, 7), "" + person);
            CHECK.is("seven persons", 7, () -> house.party(0));
        }
        CHECK.same("six go round evenly",
                Houses.partySizes(Houses.of("15", "20", "31", "42", "53", "04")), "000000");
        CHECK.same("four do", Houses.partySizes(Houses.of("13", "20", "31", "02")), "0000");
    }

    private static String steps(RoommateHouse house, int from, int many) {
        int at = from;
        for (int step = 0; step < many; step++) {
            at = house.next(at);
        }
        return "" + at;
    }

    private static void oddPartiesAreTheSame() {
        String[] lists = {"12", "20", "01", "465", "536", "643", "354", ""};
        for (int first = 0; first < 8; first++) {
            RoommateHouse house = numberedFrom(first, lists);
            StringBuilder next = new StringBuilder();
            for (int person = 0; person < 8; person++) {
                int who = house.next((person + first) % 8);
                next.append(who == RoommateHouse.NONE ? "-" : (who - first + 8) % 8);
            }
            CHECK.same("numbered from " + first, next.toString(), "120----7");
        }
    }

    /** The same persons with other numbers, so that they are found in another order. */
    private static RoommateHouse numberedFrom(int first, String... lists) {
        RoommateHouse house = new RoommateHouse();
        int n = lists.length;
        house.people(n);
        for (int person = 0; person < n; person++) {
            for (char other : lists[person].toCharArray()) {
                house.put((person + first) % n, (other - '0' + first) % n);
            }
        }
        return house;
    }

    private static void somebodyAloneIsOdd() {
        RoommateHouse house = Houses.of("1", "0", "");
        CHECK.is("party", 1, () -> house.party(2));
        CHECK.is("next", 2, () -> house.next(2));
        CHECK.is("parties", 1, () -> house.parties(false));
        CHECK.is("parties of three or more", 0, () -> house.parties(true));
        CHECK.is("it does not stand in the way", 1, house::matchings);
    }

    private static void theDraftIsFirstSingle() {
        RoommateHouse house = new RoommateHouse();
        house.people(8);
        CHECK.same("empty lists", Houses.partners(house), "01234567");
        CHECK.same("full lists", Houses.partners(Houses.full(8)), "01234567");
    }

    private static void notPossibleAnyMoreIsSingle() {
        RoommateHouse house = Houses.of("12", "02", "10", "4", "3");
        house.pair(3, 4);
        house.pair(0, 1);
        house.remove(0, 1);
        CHECK.same("another one removed", Houses.partners(house), "10243");
        house.put(0, 2);
        CHECK.same("another one put", Houses.partners(house), "10243");
        house.move(0, 0, 1);
        CHECK.same("the partner moved", Houses.partners(house), "10243");
        house.remove(0, 1);
        CHECK.same("removed by the one", Houses.partners(house), "01243");
        house.put(0, 1);
        CHECK.same("put again they stay single", Houses.partners(house), "01243");
        house.pair(0, 1);
        house.remove(1, 0);
        CHECK.same("removed by the other", Houses.partners(house), "01243");
        house.remove(4, 0);
        CHECK.same("the only one on a list", Houses.partners(house), "01234");
    }
}
