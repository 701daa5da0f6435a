/** How far it is for one from a ROOM to another one, and by which PASSAGES: promise 15. */
final class FarEdges extends Edges {
    private static void way(Due due, ShameYards x, int from, int to, int steps, int... passages) {
        String call = "far(0, " + from + ", " + to + ", ";
        due.is(call + "0)", x.far(0, from, to, 0), steps);
        for (int i = 0; i < 4; i++) {
            due.is(call + (10 + i) + ")", x.far(0, from, to, 10 + i), i < passages.length ? passages[i] : NONE);
        }
    }

    // "FAR: what = 0 how many STEPS, 10 to 13 the so-manieth PASSAGE (NONE: there are not so many)"

    static void p15_far_toTheSameRoomIs0ByNone(Due due) {
        for (int room = 0; room < 5; room++) {
            way(due, ofRooms(5), room, room, 0);
        }
        way(due, of("3;011;c00"), 2, 2, 0);
    }

    static void p15_far_onePassage(Due due) {
        way(due, of("2;011;c00"), 0, 1, 1, 0);
    }

    static void p15_far_fourPassagesAreTheMost(Due due) {
        way(due, of("5;011,122,233,344;c00"), 0, 4, 10, 0, 1, 2, 3);
        way(due, of("5;011,122,233,344;c00"), 4, 0, 10, 3, 2, 1, 0);
    }

    static void p15_far_twoAndThreePassages(Due due) {
        ShameYards x = of("5;011,122,233,344;c00");
        way(due, x, 1, 3, 5, 1, 2);
        way(due, x, 4, 1, 9, 3, 2, 1);
    }

    static void p15_far_fewestAndMostSteps(Due due) {
        way(due, of("2;011;b00"), 0, 1, 1, 0);
        way(due, of("5;019,129,239,349;l99"), 0, 4, 432, 0, 1, 2, 3);
    }

    static void p15_far_manyShortAheadOfOneLong(Due due) {
        ShameYards x = of("5;045,011,121,231,341;c00");
        way(due, x, 0, 4, 4, 1, 2, 3, 4);
        x.carpet(0, 4);
        way(due, x, 0, 4, 4, 0);
        x.carpet(0, 3);
        way(due, x, 0, 4, 3, 0);
    }

    static void p15_far_orderOfPassagesInTheTextDoesNotMatter(Due due) {
        way(due, of("5;344,233,122,011;c00"), 0, 4, 10, 3, 2, 1, 0);
        way(due, of("5;434,323,212,101;c00"), 0, 4, 10, 3, 2, 1, 0);
        way(due, of("5;233,011,344,122;c00"), 0, 4, 10, 1, 3, 0, 2);
        way(due, of("5;233,011,344,122;c00"), 4, 0, 10, 2, 0, 3, 1);
    }

    // "the fewest STEPS, alone"

    static void p15_far_byKindAndConscience(Due due) {
        // 4 and 4 or 9: a clear clerk goes round, one with 1 lie goes as far either way, then not
        ShameYards x = of("3;029,014,124;c00");
        way(due, x, 0, 2, 8, 1, 2);
        x.lie(0);
        way(due, x, 0, 2, 11, 0);
        way(due, of("3;029,014,124;w00"), 0, 2, 2, 0);
        way(due, of("3;014,124,029;w00"), 0, 2, 2, 0, 1);
    }

    static void p15_far_whereverHeIs(Due due) {
        ShameYards x = ofRooms(3);
        x.go(0, 0, -1);
        way(due, x, 0, 2, 2, 0, 1);
        way(due, x, 2, 0, 2, 1, 0);
    }

    // "of like ones the first by numbers (the first PASSAGE first)"

    static void p15_far_likePassages(Due due) {
        way(due, of("2;011,011,101;c00"), 0, 1, 1, 0);
        way(due, of("2;012,011,101;c00"), 0, 1, 1, 1);
        way(due, of("2;012,011,101;c00"), 1, 0, 1, 1);
    }

    static void p15_far_likeWaysByTheirFirstPassage(Due due) {
        way(due, of("4;011,021,131,231;c00"), 0, 3, 2, 0, 2);
        way(due, of("4;231,131,021,011;c00"), 0, 3, 2, 2, 0);
        // of 0 3 and 1 2 the first
        way(due, of("4;011,021,231,131;c00"), 0, 3, 2, 0, 3);
    }

    static void p15_far_likeWaysByALaterPassage(Due due) {
        // all begin by 0
        way(due, of("5;011,121,131,241,341;c00"), 0, 4, 3, 0, 1, 3);
        way(due, of("5;011,131,121,241,341;c00"), 0, 4, 3, 0, 1, 4);
        way(due, of("3;011,121,121;c00"), 0, 2, 2, 0, 1);
    }

    static void p15_far_likeWaysOfUnlikeManyPassages(Due due) {
        way(due, of("3;022,011,121;c00"), 0, 2, 2, 0);
        way(due, of("3;011,121,022;c00"), 0, 2, 2, 0, 1);
        way(due, of("3;121,022,011;c00"), 0, 2, 2, 1);
        way(due, of("3;121,011,022;c00"), 0, 2, 2, 1, 0);
    }

    // "none, if one cannot come there"

    static void p15_far_cannotComeThere(Due due) {
        ShameYards x = of("5;011,341;c00");
        way(due, x, 0, 2, NONE);
        way(due, x, 2, 0, NONE);
        way(due, x, 0, 3, NONE);
        way(due, x, 4, 1, NONE);
        way(due, x, 2, 3, NONE);
        way(due, x, 4, 3, 1, 1);
    }

    // "UNKNOWN: person, from, to (ROOMS that there are); OUTSIDE."

    static void p15_far_personBeyondIsUnknown(Due due) {
        for (int people = 1; people <= 5; people++) {
            ShameYards x = ofPeople(people);
            due.is("far, the last of " + people, x.far(people - 1, 0, 1, 0), 1);
            each(due, "far(%d, 0, 1, 0) of " + people, beyond(people), who -> x.far(who, 0, 1, 0), UNKNOWN);
        }
    }

    static void p15_far_fromBeyondIsUnknown(Due due) {
        for (int rooms = 2; rooms <= 5; rooms++) {
            ShameYards x = ofRooms(rooms);
            due.is("far, from the last of " + rooms, x.far(0, rooms - 1, 0, 0), rooms - 1);
            each(due, "far(0, %d, 0, 0) of " + rooms, beyond(rooms), room -> x.far(0, room, 0, 0), UNKNOWN);
        }
    }

    static void p15_far_toBeyondIsUnknown(Due due) {
        for (int rooms = 2; rooms <= 5; rooms++) {
            ShameYards x = ofRooms(rooms);
            due.is("far, to the last of " + rooms, x.far(0, 0, rooms - 1, 0), rooms - 1);
            each(due, "far(0, 0, %d, 0) of " + rooms, beyond(rooms), room -> x.far(0, 0, room, 0), UNKNOWN);
        }
    }

    static void p15_far_sameRoomBeyondIsUnknown(Due due) {
        ShameYards x = ofRooms(2);
        due.is("far(0, 2, 2, 0)", x.far(0, 2, 2, 0), UNKNOWN);
        due.is("far(0, -1, -1, 0)", x.far(0, -1, -1, 0), UNKNOWN);
    }

    static void p15_far_whatBesideIsOutside(Due due) {
        ShameYards x = ofRooms(5);
        int[] wrong = {-1, 1, 9, 14, 2, 8, 15, LEAST, MOST, 65536, 256};
        each(due, "far(0, 0, 4, %d)", wrong, what -> x.far(0, 0, 4, what), OUTSIDE);
        each(due, "far(0, 0, 0, %d)", wrong, what -> x.far(0, 0, 0, what), OUTSIDE);
    }

    static void p15_far_whatBesideIsOutsideWhereNoneCanCome(Due due) {
        ShameYards x = of("3;011;c00");
        due.is("far(0, 0, 2, 1)", x.far(0, 0, 2, 1), OUTSIDE);
        due.is("far(0, 0, 2, 14)", x.far(0, 0, 2, 14), OUTSIDE);
    }

    static void p15_far_unknownIsToldAheadOfOutside(Due due) {
        ShameYards x = ofRooms(2);
        due.is("far(1, 0, 0, 9)", x.far(1, 0, 0, 9), UNKNOWN);
        due.is("far(0, 2, 0, 14)", x.far(0, 2, 0, 14), UNKNOWN);
        due.is("far(0, 0, 2, -1)", x.far(0, 0, 2, -1), UNKNOWN);
    }

    static void p15_far_changesNothing(Due due) {
        Twins.unchanged(due, "far(3, 0, 0, 0)", x -> x.far(3, 0, 0, 0), UNKNOWN);
        Twins.unchanged(due, "far(0, 4, 0, 0)", x -> x.far(0, 4, 0, 0), UNKNOWN);
        Twins.unchanged(due, "far(0, 0, 4, 0)", x -> x.far(0, 0, 4, 0), UNKNOWN);
        Twins.unchanged(due, "far(0, 0, 1, 9)", x -> x.far(0, 0, 1, 9), OUTSIDE);
        Twins.unchanged(due, "far(0, 0, 3, 0)", x -> x.far(0, 0, 3, 0), 24);
        Twins.unchanged(due, "far(0, 0, 3, 11)", x -> x.far(0, 0, 3, 11), 3);
    }
}
