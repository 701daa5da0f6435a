/** How likely two meet who go about: promise 18. */
final class MeetEdges extends Edges {
    private static void met(Due due, ShameYards x, int times, long above, long below) {
        String call = "meet(0, 1, " + times + ", ";
        due.is(call + "0)", x.meet(0, 1, times, 0), above);
        due.is(call + "1)", x.meet(0, 1, times, 1), below);
    }

    // "how likely both are in one ROOM behind these turns, in whole parts"; "in lowest terms (0 of 1)"

    static void p18_meet_neverIs0Of1(Due due) {
        ShameYards x = of("2;011;c00,c00");
        x.go(0, 0, -1);
        for (int turns = 1; turns <= 3; turns++) {
            met(due, x, turns, 0, 1);
        }
    }

    static void p18_meet_alwaysIs1Of1(Due due) {
        for (int turns = 1; turns <= 3; turns++) {
            met(due, of("2;011;c00,c00"), turns, 1, 1);
        }
    }

    static void p18_meet_lowestTerms(Due due) {
        // 2 of 4 ways each to ROOM 1 and 2: 8 of 16
        met(due, of("3;011,011,021,021;c00,c00"), 1, 1, 2);
        // 2 of 6: 4 and 4 and 4 of 36
        met(due, of("4;011,011,021,021,031,031;c00,c00"), 1, 1, 3);
    }

    static void p18_meet_sevenPassagesFromOneRoom(Due due) {
        met(due, of("3;011,011,011,011,011,011,021;c00,c00"), 1, 37, 49);
        met(due, of("3;011,011,011,011,011,011,021;c00,c00"), 3, 37, 49);
    }

    static void p18_meet_eachPassageAsLikely(Due due) {
        // both passages to ROOM 1 count: 2 of 3 and 1 of 3
        met(due, of("3;011,011,021;c00,c00"), 1, 5, 9);
        // the length of a passage, the kind and the conscience do not
        met(due, of("3;011,019,025;l99,w00"), 1, 5, 9);
    }

    static void p18_meet_largePartsAreWhole(Due due) {
        met(due, of("4;101,321,021,301,031,011,131;c00,c00"), 3, 47023, 180000);
    }

    // "so many turns (1 to 3)"

    static void p18_meet_turnsOneByOne(Due due) {
        // from ROOM 0 to ROOM 1; then to 0 or 2 as likely; then both to ROOM 1 again
        ShameYards x = of("3;011,121;c00,c00");
        met(due, x, 1, 1, 1);
        met(due, x, 2, 1, 2);
        met(due, x, 3, 1, 1);
        x.go(1, 0, -1);
        met(due, x, 1, 0, 1);
        met(due, x, 2, 0, 1);
        met(due, x, 3, 0, 1);
    }

    static void p18_meet_fromUnlikeRooms(Due due) {
        // one in ROOM 0, one in ROOM 1 of a ring of three: both in ROOM 2 by 1 of 4
        ShameYards x = of("3;011,121,201;c00,c00");
        x.go(1, 0, -1);
        met(due, x, 1, 1, 4);
        // the first is in ROOM 0, 1, 2 by 2, 1, 1 of 4, the other one by 1, 2, 1
        met(due, x, 2, 5, 16);
    }

    static void p18_meet_aAndBAreTakenEitherWay(Due due) {
        ShameYards x = of("3;011,011,121;c00,c00");
        x.go(0, 0, -1);
        x.go(0, 2, -1);
        for (int turns = 1; turns <= 3; turns++) {
            for (int what = 0; what <= 1; what++) {
                due.is("meet(1, 0, " + turns + ", " + what + ")",
                        x.meet(1, 0, turns, what), x.meet(0, 1, turns, what));
            }
        }
    }

    // "where none does, he stays"

    static void p18_meet_whoHasNoPassageStays(Due due) {
        for (int turns = 1; turns <= 3; turns++) {
            met(due, of("3;121;c00,c00"), turns, 1, 1);
        }
    }

    // "UNKNOWN: a, b, or they are the same"

    static void p18_meet_aBeyondIsUnknown(Due due) {
        for (int people = 2; people <= 5; people++) {
            ShameYards x = ofPeople(people);
            due.is("meet, the last of " + people, x.meet(people - 1, 0, 1, 0), 1);
            each(due, "meet(%d, 0, 1, 0) of " + people, beyond(people), who -> x.meet(who, 0, 1, 0), UNKNOWN);
        }
    }

    static void p18_meet_bBeyondIsUnknown(Due due) {
        for (int people = 2; people <= 5; people++) {
            ShameYards x = ofPeople(people);
            due.is("meet, the last of " + people, x.meet(0, people - 1, 1, 0), 1);
            each(due, "meet(0, %d, 1, 0) of " + people, beyond(people), who -> x.meet(0, who, 1, 0), UNKNOWN);
        }
    }

    static void p18_meet_oneAloneMeetsNobody(Due due) {
        ShameYards x = ofPeople(1);
        due.is("meet(0, 0, 1, 0)", x.meet(0, 0, 1, 0), UNKNOWN);
        due.is("meet(0, 1, 1, 0)", x.meet(0, 1, 1, 0), UNKNOWN);
        due.is("meet(1, 0, 1, 0)", x.meet(1, 0, 1, 0), UNKNOWN);
    }

    static void p18_meet_theSameIsUnknown(Due due) {
        ShameYards x = ofPeople(5);
        for (int person = 0; person < 5; person++) {
            due.is("meet(" + person + ", " + person + ", 1, 0)", x.meet(person, person, 1, 0), UNKNOWN);
        }
    }

    // "OUTSIDE: times (1 to 3), what"

    static void p18_meet_timesBesideAreOutside(Due due) {
        ShameYards x = ofPeople(2);
        due.is("meet(0, 1, 1, 1)", x.meet(0, 1, 1, 1), 1);
        due.is("meet(0, 1, 3, 1)", x.meet(0, 1, 3, 1), 1);
        int[] wrong = {0, 4, -1, 5, LEAST, MOST, 65536 + 1, 256 + 1};
        each(due, "meet(0, 1, %d, 0)", wrong, times -> x.meet(0, 1, times, 0), OUTSIDE);
    }

    static void p18_meet_whatBesideIsOutside(Due due) {
        ShameYards x = ofPeople(2);
        each(due, "meet(0, 1, 1, %d)", beyond(2), what -> x.meet(0, 1, 1, what), OUTSIDE);
    }

    static void p18_meet_unknownIsToldAheadOfOutside(Due due) {
        ShameYards x = ofPeople(2);
        due.is("meet(2, 0, 0, 0)", x.meet(2, 0, 0, 0), UNKNOWN);
        due.is("meet(0, 2, 4, 0)", x.meet(0, 2, 4, 0), UNKNOWN);
        due.is("meet(1, 1, 1, 2)", x.meet(1, 1, 1, 2), UNKNOWN);
        due.is("meet(0, -1, 1, -1)", x.meet(0, -1, 1, -1), UNKNOWN);
    }

    static void p18_meet_changesNothing(Due due) {
        Twins.unchanged(due, "meet(3, 0, 1, 0)", x -> x.meet(3, 0, 1, 0), UNKNOWN);
        Twins.unchanged(due, "meet(0, 0, 1, 0)", x -> x.meet(0, 0, 1, 0), UNKNOWN);
        Twins.unchanged(due, "meet(0, 1, 4, 0)", x -> x.meet(0, 1, 4, 0), OUTSIDE);
        Twins.unchanged(due, "meet(0, 1, 1, 2)", x -> x.meet(0, 1, 1, 2), OUTSIDE);
        Twins.unchanged(due, "meet(0, 2, 1, 1)", x -> x.meet(0, 2, 1, 1), 4);
    }
}
