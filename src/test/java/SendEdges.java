/** Who should go to which ROOM: promise 16. */
final class SendEdges extends Edges {
    private static void sent(Due due, ShameYards x, int steps, int... who) {
        due.is("send(0)", x.send(0), steps);
        for (int i = 0; i < 4; i++) {
            due.is("send(" + (11 + i) + ")", x.send(11 + i), i < who.length ? who[i] : NONE);
        }
    }

    // "to each ROOM, but ROOM 0, one who goes there alone from where he is, to each another one"

    static void p16_send_twoRoomsNeedOne(Due due) {
        sent(due, of("2;011;c00"), 1, 0);
    }

    static void p16_send_fiveRoomsNeedFour(Due due) {
        sent(due, of("5;011,021,031,041;c00,c00,c00,c00"), 4, 0, 1, 2, 3);
    }

    static void p16_send_eachGoesToOneRoomAlone(Due due) {
        // PERSON 1 would have the fewest to either
        sent(due, of("3;011,021;c90,c00"), 1 + 10, 0, 1);
        sent(due, of("3;011,021;c90,c00,c50"), 1 + 6, 1, 2);
    }

    static void p16_send_moreByStepsThanByOne(Due due) {
        // whoever has the fewest to ROOM 1 is wanted more for ROOM 2
        sent(due, of("3;011,129;w00,c00"), 1 + 3, 1, 0);
    }

    static void p16_send_fromWhereTheyAre(Due due) {
        ShameYards x = of("3;012,023;c00,c00,c00");
        sent(due, x, 5, 0, 1);
        x.go(2, 1, -1);
        sent(due, x, 2, 0, 2);
        x.go(1, 0, -1);
        sent(due, x, 0, 1, 2);
    }

    static void p16_send_asItIsNow(Due due) {
        ShameYards x = of("3;012,023;c00,c00");
        sent(due, x, 5, 0, 1);
        x.lie(1);
        sent(due, x, 7, 0, 1);
        x.carpet(1, 9);
        sent(due, x, 13, 0, 1);
        x.lie(0);
        x.lie(0);
        sent(due, x, 17, 0, 1);
        Typing.type(x, "3;011;c00,c00");
        x.ministry();
        sent(due, x, NONE);
    }

    static void p16_send_fewestAndMostSteps(Due due) {
        ShameYards x = of("2;019;l99");
        x.go(0, 0, -1);
        sent(due, x, 0, 0);
        sent(due, of("5;019,129,239,349;l99,l99,l99,l99"), 108 + 216 + 324 + 432, 0, 1, 2, 3);
    }

    // "of like ones the first by numbers (ROOM 1 first)"

    static void p16_send_likeOnesByRoom1First(Due due) {
        sent(due, of("5;011,021,031,041;c00,c00,c00,c00,c00"), 4, 0, 1, 2, 3);
        sent(due, of("3;011,021;c01,c00,c00"), 2, 1, 2);
        sent(due, of("3;011,021;c00,c01,c00"), 2, 0, 2);
    }

    static void p16_send_likeOnesByALaterRoom(Due due) {
        sent(due, of("4;011,021,031;c00,c01,c00,c00"), 3, 0, 2, 3);
    }

    // "none, if that cannot be"

    static void p16_send_oneTooFew(Due due) {
        sent(due, of("3;011,021;w00"), NONE);
        sent(due, of("5;011,021,031,041;c00,c00,c00"), NONE);
    }

    static void p16_send_justEnough(Due due) {
        sent(due, of("3;011,021;w00,w00"), 2, 0, 1);
        sent(due, of("5;011,021,031,041;c00,c00,c00,c00"), 4, 0, 1, 2, 3);
    }

    static void p16_send_aRoomThatNoneCanComeTo(Due due) {
        sent(due, of("3;011;c00,c00"), NONE);
        sent(due, of("4;011,231;c00,c00,c00"), NONE);
        sent(due, of("3;121;c00,c00"), NONE);
    }

    static void p16_send_noPassageFromRoom0(Due due) {
        sent(due, of("3;121;c00,c00,c00,c00,c00"), NONE);
    }

    static void p16_send_peopleAndRoomsThatAreGoneDoNotCount(Due due) {
        ShameYards x = of("5;011,021,031,041;w00,w00,w00,w00,w00");
        sent(due, x, 4, 0, 1, 2, 3);
        Typing.type(x, "4;012,022,032;c00,c00");
        x.ministry();
        sent(due, x, NONE);
        Typing.type(x, "3;012,022;c00,c00");
        x.ministry();
        sent(due, x, 4, 0, 1);
    }

    // "11 to 14 who goes to ROOM 1 to 4 (NONE: there is none such)"

    static void p16_send_noSuchRoomIsNone(Due due) {
        for (int rooms = 2; rooms <= 5; rooms++) {
            ShameYards x = of(rooms + ";011,021,031,041".substring(0, 4 * rooms - 4) + ";c00,c00,c00,c00,c00");
            for (int room = 1; room <= 4; room++) {
                due.is("send(" + (10 + room) + ") of " + rooms, x.send(10 + room), room < rooms ? room - 1 : NONE);
            }
        }
    }

    // "OUTSIDE"

    static void p16_send_whatBesideIsOutside(Due due) {
        ShameYards x = of("5;011,021,031,041;c00,c00,c00,c00");
        int[] wrong = {-1, 1, 10, 15, 2, 9, 16, LEAST, MOST, 65536, 256};
        each(due, "send(%d)", wrong, x::send, OUTSIDE);
        due.is("count(11)", x.count(11), 0);
    }

    static void p16_send_outsideChangesNothing(Due due) {
        Twins.unchanged(due, "send(10)", x -> x.send(10), OUTSIDE);
        Twins.unchanged(due, "send(15)", x -> x.send(15), OUTSIDE);
        Twins.unchanged(due, "send(1)", x -> x.send(1), OUTSIDE);
        Twins.unchanged(due, "send(-1)", x -> x.send(-1), OUTSIDE);
    }

    // "STATE: no MINISTRY, or send() was done 30 times"

    static void p16_send_noMinistryIsState(Due due) {
        ShameYards x = new ShameYards();
        int[] all = {0, 11, 12, 13, 14};
        each(due, "send(%d)", all, x::send, STATE);
        due.is("count(11)", x.count(11), 0);
    }

    static void p16_send_outsideIsToldAheadOfState(Due due) {
        due.is("send(10) with no ministry", new ShameYards().send(10), OUTSIDE);
        due.is("send(15) with no ministry", new ShameYards().send(15), OUTSIDE);
        ShameYards x = ofPeople(1);
        times(30, () -> x.send(0));
        due.is("send(1) behind 30", x.send(1), OUTSIDE);
    }

    static void p16_send_the30thIsTheLast(Due due) {
        ShameYards x = ofPeople(1);
        times(29, () -> x.send(0));
        due.is("send(0), the 30th", x.send(0), 1);
        due.is("count(11)", x.count(11), 30);
    }

    static void p16_send_the31stIsState(Due due) {
        ShameYards x = ofPeople(1);
        times(30, () -> x.send(0));
        int[] all = {0, 11, 12, 13, 14};
        each(due, "send(%d)", all, x::send, STATE);
        due.is("count(11)", x.count(11), 30);
    }

    static void p16_send_eachWhatCountsAsOne(Due due) {
        ShameYards x = ofPeople(1);
        times(15, () -> x.send(11));
        times(14, () -> x.send(14));
        due.is("count(11)", x.count(11), 29);
        due.is("send(12), the 30th", x.send(12), NONE);
        due.is("send(11), the 31st", x.send(11), STATE);
    }

    static void p16_send_noneWasDoneToo(Due due) {
        ShameYards x = of("3;011;c00");
        times(30, () -> due.is("send(0)", x.send(0), NONE));
        due.is("count(11)", x.count(11), 30);
        due.is("send(0), the 31st", x.send(0), STATE);
    }

    static void p16_send_refusedWasNotDone(Due due) {
        ShameYards x = new ShameYards();
        times(5, () -> x.send(0));
        Typing.type(x, SMALLEST);
        x.ministry();
        times(5, () -> x.send(10));
        times(30, () -> due.is("send(0)", x.send(0), 1));
        due.is("send(0), the 31st", x.send(0), STATE);
    }

    static void p16_send_timesGoOnInAnotherMinistry(Due due) {
        ShameYards x = ofPeople(1);
        times(29, () -> x.send(0));
        Typing.type(x, SMALLEST);
        x.ministry();
        due.is("count(11)", x.count(11), 29);
        due.is("send(0), the 30th", x.send(0), 1);
        due.is("send(0), the 31st", x.send(0), STATE);
    }

    static void p16_send_timesGoOnBehindRestore(Due due) {
        ShameYards x = ofPeople(1);
        x.image();
        times(30, () -> x.send(0));
        x.restore();
        due.is("count(11)", x.count(11), 30);
        due.is("send(0), the 31st", x.send(0), STATE);
    }

    static void p16_send_stateChangesNothing(Due due) {
        Twins.unchanged(due, "send(0) behind 30", x -> {
            Twins.lively(x);
            times(29, () -> x.send(0));
        }, x -> x.send(0), STATE);
        Twins.unchanged(due, "send(0) with no ministry", x -> Typing.type(x, "2;01"), x -> x.send(0), STATE);
    }

    static void p16_send_changesNothingButItsCount(Due due) {
        ShameYards x = new ShameYards();
        Twins.lively(x);
        due.is("send(0)", x.send(0), 96 + 7);
        due.is("count(11)", x.count(11), 2);
        due.is("person(0, 3)", x.person(0, 3), 1);
        due.is("count(5)", x.count(5), 7 + 7 + 4);
    }
}
