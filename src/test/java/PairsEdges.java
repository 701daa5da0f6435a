/** Who should go with whom through a PASSAGE: promise 17. */
final class PairsEdges extends Edges {
    private static void paired(Due due, String text, int steps, int... with) {
        ShameYards x = of(text);
        due.is("pairs(0, 0) of " + text, x.pairs(0, 0), steps);
        for (int i = 0; i < 5; i++) {
            due.is("pairs(0, " + (10 + i) + ") of " + text, x.pairs(0, 10 + i), i < with.length ? with[i] : NONE);
        }
    }

    // "each with one other or alone, wherever all are, so that the most STEPS that any has are fewest"

    static void p17_pairs_oneIsAlone(Due due) {
        paired(due, "2;011;c00", 1);
        paired(due, "2;019;l99", 108);
    }

    static void p17_pairs_twoTogether(Due due) {
        paired(due, "2;012;l00,c00", 3, 1, 0);
        paired(due, "2;012;c00,l00", 3, 1, 0);
    }

    static void p17_pairs_noMoreThanTwoGoTogether(Due due) {
        // 6 and 3, 3: half of 9 is 5, one is alone
        paired(due, "2;013;l00,c00,c00", 5, 1, 0, NONE);
    }

    static void p17_pairs_fivePeople(Due due) {
        // 12 with 3 is 8, twice; one of 5 is alone
        paired(due, "2;013;l10,l10,c00,c00,c20", 8, 2, 3, 0, 1, NONE);
    }

    static void p17_pairs_theSlowWithTheQuick(Due due) {
        // 10, 8, 4, 2 yards: 10 with 2 is 6, 8 with 4 is 6; any other way one has more
        paired(due, "2;012;c80,c60,c20,c00", 6, 3, 2, 1, 0);
    }

    static void p17_pairs_roundedUp(Due due) {
        // 4 with 2 is 3; 4 with 3 is 4, as alone
        paired(due, "2;012;c20,c00", 3, 1, 0);
        paired(due, "2;012;c20,c10", 4, NONE, NONE);
    }

    static void p17_pairs_fewestAndMostSteps(Due due) {
        paired(due, "2;011;c00,c00,c00,c00,c00", 1);
        paired(due, "2;019;l99,l99,l99,l99,l99", 108);
    }

    static void p17_pairs_whereverAllAre(Due due) {
        ShameYards x = of("3;121,012;c00,l00");
        x.go(0, 1, -1);
        due.is("pairs(0, 0)", x.pairs(0, 0), 2);
        x.carpet(0, 2);
        due.is("pairs(0, 0)", x.pairs(0, 0), 3);
        due.is("pairs(0, 10)", x.pairs(0, 10), 1);
    }

    // "of these with fewest who go together"

    static void p17_pairs_noneTogetherIfItHelpsNobody(Due due) {
        paired(due, "2;011;c00,c00", 1);
        paired(due, "2;011;l00,b00", 2);
        paired(due, "2;012;l00,l00,c00", 4);
        paired(due, "2;012;l00,l00", 4);
    }

    static void p17_pairs_onePairAheadOfTwo(Due due) {
        paired(due, "2;012;l00,c00,c00,c00", 3, 1, 0, NONE, NONE);
    }

    static void p17_pairs_twoPairsIfTheyAreQuicker(Due due) {
        paired(due, "2;012;l00,l00,c00,c00", 3, 2, 3, 0, 1);
    }

    static void p17_pairs_fewestStepsAheadOfFewestPairs(Due due) {
        // 8, 4, 7, 4 yards: by one pair one has 7, by two pairs all have 6
        paired(due, "2;014;l00,c00,c30,c00", 6, 1, 0, 3, 2);
    }

    // "with whom each goes (NONE: alone); of like ones the first by numbers (PERSON 0 first; alone
    // ahead of all)"

    static void p17_pairs_aloneAheadOfAll(Due due) {
        // the lamp goes with the last clerk, so that PERSON 0, then PERSON 1 is alone
        paired(due, "2;012;c00,c00,c00,l00", 3, NONE, NONE, 3, 2);
        paired(due, "2;012;c00,c00,c00,c00,l00", 3, NONE, NONE, NONE, 4, 3);
    }

    static void p17_pairs_firstByNumbers(Due due) {
        paired(due, "2;012;l00,c00,c00,c00,c00", 3, 1, 0);
        paired(due, "2;012;l00,l00,c00,c00,c00", 3, 2, 3, 0, 1, NONE);
        paired(due, "2;012;c00,l00,c00,l00,c00", 3, NONE, 2, 1, 4, 3);
    }

    // "10 to 14 with whom PERSON 0 to 4 goes (NONE: alone, or there is none such)"

    static void p17_pairs_noSuchPersonIsNone(Due due) {
        for (int people = 1; people <= 5; people++) {
            ShameYards x = ofPeople(people);
            for (int what = 10; what <= 14; what++) {
                due.is("pairs(0, " + what + ") of " + people, x.pairs(0, what), NONE);
            }
        }
    }

    static void p17_pairs_peopleWhoAreGoneDoNotCount(Due due) {
        ShameYards x = of("2;019;l99,l99,l99,l99,l99");
        due.is("pairs(0, 0)", x.pairs(0, 0), 108);
        for (int people = 4; people >= 1; people--) {
            Typing.type(x, "2;011;c00" + ",c00".repeat(people - 1));
            x.ministry();
            due.is("pairs(0, 0) of " + people, x.pairs(0, 0), 1);
        }
    }

    static void p17_pairs_noneOfAnEarlierAnswerIsLeft(Due due) {
        ShameYards x = of("2;012;c00,c00,c00,c00,l00");
        due.is("pairs(0, 14)", x.pairs(0, 14), 3);
        Typing.type(x, "2;012;c00,c00,c00");
        x.ministry();
        due.is("pairs(0, 13)", x.pairs(0, 13), NONE);
        due.is("pairs(0, 14)", x.pairs(0, 14), NONE);
    }

    // "UNKNOWN: passage; OUTSIDE."

    static void p17_pairs_passageBeyondIsUnknown(Due due) {
        for (int passages = 1; passages <= 7; passages++) {
            ShameYards x = ofPassages(passages);
            due.is("pairs, the last of " + passages, x.pairs(passages - 1, 0), 1);
            each(due, "pairs(%d, 0) of " + passages, beyond(passages), way -> x.pairs(way, 0), UNKNOWN);
        }
    }

    static void p17_pairs_whatBesideIsOutside(Due due) {
        ShameYards x = ofPeople(5);
        int[] wrong = {-1, 1, 9, 15, 2, 8, 16, LEAST, MOST, 65536, 256};
        each(due, "pairs(0, %d)", wrong, what -> x.pairs(0, what), OUTSIDE);
    }

    static void p17_pairs_unknownIsToldAheadOfOutside(Due due) {
        ShameYards x = ofPeople(1);
        due.is("pairs(1, 1)", x.pairs(1, 1), UNKNOWN);
        due.is("pairs(-1, 15)", x.pairs(-1, 15), UNKNOWN);
    }

    static void p17_pairs_changesNothing(Due due) {
        Twins.unchanged(due, "pairs(4, 0)", x -> x.pairs(4, 0), UNKNOWN);
        Twins.unchanged(due, "pairs(-1, 0)", x -> x.pairs(-1, 0), UNKNOWN);
        Twins.unchanged(due, "pairs(0, 9)", x -> x.pairs(0, 9), OUTSIDE);
        Twins.unchanged(due, "pairs(0, 15)", x -> x.pairs(0, 15), OUTSIDE);
        Twins.unchanged(due, "pairs(0, 0)", x -> x.pairs(0, 0), 51);
        Twins.unchanged(due, "pairs(0, 12)", x -> x.pairs(0, 12), 1);
    }
}
