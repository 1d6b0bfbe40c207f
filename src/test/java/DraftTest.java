/** Promises 8 to 11 and 20: the draft, a test for each sentence. */
public final class DraftTest {
    private static final Check CHECK = new Check();

    public static void main(String[] args) {
        CHECK.sentence("Promise 8: Two are partners in the draft", DraftTest::pairMakesPartners);
        CHECK.sentence("Promise 8: who was theirs is single", DraftTest::pairMakesSingle);
        CHECK.sentence("Promise 8: how many pairs block it then",
                DraftTest::pairAnswersWhatBlocksThen);
        CHECK.sentence("Promise 8: IllegalArgument: the same one.",
                DraftTest::pairRefusesTheSameOne);
        CHECK.sentence("Promise 8: IllegalState: they are not possible.",
                DraftTest::pairRefusesWhoIsNotPossible);
        CHECK.sentence("Promise 9: A person's partner in the draft, itself when it is single.",
                DraftTest::partnerTellsItselfWhenSingle);
        CHECK.sentence("Promise 10: How many pairs block the draft.",
                DraftTest::blockingCountsPairs);
        CHECK.sentence("Promise 11: The first pair that blocks the draft (the least lesser one, "
                + "then the least greater one) are partners now",
                DraftTest::satisfyTakesTheFirstPair);
        CHECK.sentence("Promise 11: who was theirs is single", DraftTest::satisfyMakesSingle);
        CHECK.sentence("Promise 11: The lesser one, 8 times, and the greater one",
                DraftTest::satisfyTellsWho);
        CHECK.sentence("Promise 11: NONE when none blocks it.", DraftTest::satisfyTellsNone);
        CHECK.sentence("Promise 20: For how many persons the draft is no matching (the partner's "
                + "partner is another one, or the two are not possible): so always 0.",
                DraftTest::astrayIsAlwaysNought);
        CHECK.finish();
    }

    private static void pairMakesPartners() {
        RoommateHouse house = Houses.full(8);
        house.pair(0, 7);
        CHECK.same("the first and the last person", Houses.partners(house), "71234560");
        house.pair(4, 3);
        CHECK.same("the greater one named first", Houses.partners(house), "71243560");
        house.pair(7, 0);
        CHECK.same("partners already", Houses.partners(house), "71243560");
        house.pair(1, 2);
        house.pair(5, 6);
        CHECK.same("nobody single", Houses.partners(house), "72143650");
    }

    private static void pairMakesSingle() {
        RoommateHouse house = Houses.full(4);
        house.pair(0, 1);
        house.pair(0, 2);
        CHECK.same("the one had somebody", Houses.partners(house), "2103");
        house.pair(3, 2);
        CHECK.same("the other had somebody", Houses.partners(house), "0132");
        house.pair(0, 1);
        house.pair(1, 2);
        CHECK.same("both had somebody", Houses.partners(house), "0213");
        house.pair(2, 1);
        CHECK.same("they had each other", Houses.partners(house), "0213");
        house.pair(0, 3);
        CHECK.same("neither had somebody", Houses.partners(house), "3210");
    }

    private static void pairAnswersWhatBlocksThen() {
        RoommateHouse two = Houses.of("1", "0");
        CHECK.is("none of the only two", 0, () -> two.pair(0, 1));
        RoommateHouse house = Houses.of("123", "203", "013", "012");
        CHECK.is("before it all block", 6, house::blocking);
        CHECK.is("pair(0, 1)", 2, () -> house.pair(0, 1));
        CHECK.is("pair(3, 2)", 1, () -> house.pair(3, 2));
        CHECK.is("pair(1, 0) again", 1, () -> house.pair(1, 0));
        CHECK.is("pair(1, 2), and two single", 2, () -> house.pair(1, 2));
    }

    private static void pairRefusesTheSameOne() {
        RoommateHouse house = Houses.full(8);
        house.pair(0, 7);
        for (int person = 0; person < 8; person++) {
            int who = person;
            CHECK.badArgument("pair with itself", () -> house.pair(who, who));
        }
        RoommateHouse alone = Houses.of("");
        CHECK.badArgument("the only person", () -> alone.pair(0, 0));
    }

    private static void pairRefusesWhoIsNotPossible() {
        RoommateHouse house = Houses.of("12", "0", "", "");
        CHECK.badState("on the one's list alone", () -> house.pair(0, 2));
        CHECK.badState("on the other one's list alone", () -> house.pair(2, 0));
        CHECK.badState("on neither list", () -> house.pair(2, 3));
        CHECK.is("on both lists", 0, () -> house.pair(0, 1));
        house.remove(0, 0);
        CHECK.badState("not any more", () -> house.pair(0, 1));
        house.put(2, 0);
        CHECK.is("by now", 0, () -> house.pair(0, 2));
    }

    private static void partnerTellsItselfWhenSingle() {
        RoommateHouse house = Houses.full(8);
        CHECK.same("all single", Houses.partners(house), "01234567");
        house.pair(0, 7);
        CHECK.is("the first person's", 7, () -> house.partner(0));
        CHECK.is("the last person's", 0, () -> house.partner(7));
        CHECK.is("still single", 3, () -> house.partner(3));
        house.pair(7, 3);
        CHECK.is("single again", 0, () -> house.partner(0));
        RoommateHouse alone = Houses.of("");
        CHECK.is("the only person", 0, () -> alone.partner(0));
    }

    private static void blockingCountsPairs() {
        CHECK.is("one person", 0, () -> Houses.of("").blocking());
        CHECK.is("two persons, one pair", 1, () -> Houses.of("1", "0").blocking());
        CHECK.is("8 persons, the most pairs", 28, () -> Houses.full(8).blocking());
        RoommateHouse house = Houses.of("213", "032", "301", "120");
        house.pair(0, 1);
        house.pair(2, 3);
        CHECK.is("in every other pair only one would rather", 0, house::blocking);
        house.pair(0, 3);
        CHECK.is("two are single", 5, house::blocking);
        house.pair(2, 1);
        CHECK.is("nobody is single", 4, house::blocking);
        house.move(0, 2, 0);
        CHECK.is("0 would have none but 3", 2, house::blocking);
    }

    private static void satisfyTakesTheFirstPair() {
        RoommateHouse house = Houses.of("", "67", "7", "", "", "", "1", "21");
        CHECK.is("1 and 6, 1 and 7, 2 and 7 block", 3, house::blocking);
        house.satisfy();
        CHECK.same("the least greater one, not the best", Houses.partners(house), "06234517");
        house.satisfy();
        CHECK.same("then the next pair", Houses.partners(house), "06734512");
        RoommateHouse full = Houses.full(8);
        full.move(0, 6, 0);
        full.satisfy();
        CHECK.same("of the most pairs the first", Houses.partners(full), "10234567");
    }

    private static void satisfyMakesSingle() {
        RoommateHouse house = Houses.of("12", "20", "01");
        house.satisfy();
        house.satisfy();
        CHECK.same("1 leaves 0", Houses.partners(house), "021");
        house.satisfy();
        CHECK.same("2 leaves 1", Houses.partners(house), "210");
        house.satisfy();
        CHECK.same("0 leaves 2, round again", Houses.partners(house), "102");
        RoommateHouse four = Houses.of("12", "03", "03", "12");
        four.pair(0, 2);
        four.pair(1, 3);
        four.satisfy();
        CHECK.same("both leave somebody", Houses.partners(four), "1023");
    }

    private static void satisfyTellsWho() {
        CHECK.is("0 and 1", 1, () -> Houses.of("1", "0").satisfy());
        CHECK.is("0 and 7", 7, () -> Houses.of("7", "", "", "", "", "", "", "0").satisfy());
        CHECK.is("1 and 2", 10, () -> Houses.of("", "2", "1").satisfy());
        CHECK.is("6 and 7", 55, () -> Houses.of("", "", "", "", "", "", "7", "6").satisfy());
        RoommateHouse house = Houses.of("12", "20", "01");
        for (int code : new int[] {1, 10, 2, 1, 10, 2}) {
            CHECK.is("round and round", code, house::satisfy);
        }
    }

    private static void satisfyTellsNone() {
        CHECK.is("no persons", -1, () -> new RoommateHouse().satisfy());
        CHECK.is("one person", -1, () -> Houses.of("").satisfy());
        CHECK.is("nobody possible", -1, () -> Houses.of("1", "").satisfy());
        RoommateHouse house = Houses.of("1", "0", "");
        house.satisfy();
        CHECK.is("the only pair are partners", -1, house::satisfy);
        CHECK.same("they stay so", Houses.partners(house), "102");
    }

    private static void astrayIsAlwaysNought() {
        CHECK.is("no persons", 0, () -> new RoommateHouse().astray());
        RoommateHouse house = Houses.of("123", "203", "013", "012");
        CHECK.is("all single", 0, house::astray);
        house.pair(0, 1);
        house.pair(2, 3);
        CHECK.is("all in pairs", 0, house::astray);
        house.pair(0, 3);
        CHECK.is("other pairs", 0, house::astray);
        house.remove(0, 2);
        CHECK.is("not possible any more", 0, house::astray);
        house.satisfy();
        CHECK.is("satisfied", 0, house::astray);
        house.people(8);
        CHECK.is("anew", 0, house::astray);
    }
}
