/** How many there are, and the digest of all: promises 24 and 25. */
final class CountEdges extends Edges {
    // "How many: 0 ROOMS, 1 PASSAGES, 2 PEOPLE .. OUTSIDE."

    static void p24_count_whatBesideIsOutside(Due due) {
        ShameYards x = ofPeople(1);
        each(due, "count(%d)", beyond(12), x::count, OUTSIDE);
        each(due, "count(%d) with no ministry", beyond(12), new ShameYards()::count, OUTSIDE);
    }

    static void p24_count_what0And11AreTaken(Due due) {
        ShameYards x = ofPeople(1);
        x.send(0);
        due.is("count(0)", x.count(0), 2);
        due.is("count(11)", x.count(11), 1);
    }

    static void p24_count_changesNothing(Due due) {
        int[] told = {4, 4, 3, 13, 12, 18, 1, 1, 3, 4, 1, 1};
        for (int what = 0; what <= 11; what++) {
            int asked = what;
            Twins.unchanged(due, "count(" + what + ")", x -> x.count(asked), told[what]);
        }
        Twins.unchanged(due, "count(-1)", x -> x.count(-1), OUTSIDE);
        Twins.unchanged(due, "count(12)", x -> x.count(12), OUTSIDE);
    }

    static void p24_count_roomsFewestAndMost(Due due) {
        for (int rooms = 2; rooms <= 5; rooms++) {
            due.is("count(0) of " + rooms, ofRooms(rooms).count(0), rooms);
        }
    }

    static void p24_count_passagesFewestAndMost(Due due) {
        for (int passages = 1; passages <= 7; passages++) {
            due.is("count(1) of " + passages, ofPassages(passages).count(1), passages);
        }
    }

    static void p24_count_peopleFewestAndMost(Due due) {
        for (int people = 1; people <= 5; people++) {
            due.is("count(2) of " + people, ofPeople(people).count(2), people);
        }
    }

    static void p24_count_deedsAndLiesFewestAndMost(Due due) {
        due.is("count(3) of none", of(SMALLEST).count(3), 0);
        due.is("count(4) of none", of(SMALLEST).count(4), 0);
        due.is("count(3) of all", of(LARGEST).count(3), 45);
        due.is("count(4) of all", of(LARGEST).count(4), 45);
        due.is("count(3) of deeds alone", of("2;011;c90,c10").count(3), 10);
        due.is("count(4) of deeds alone", of("2;011;c90,c10").count(4), 0);
    }

    static void p24_count_stepsOfAll(Due due) {
        ShameYards x = of("2;013;c00,c00");
        due.is("count(5) at first", x.count(5), 0);
        x.go(0, 0, 1);
        due.is("count(5) of two", x.count(5), 6);
        x.go(1, 0, -1);
        due.is("count(5)", x.count(5), 9);
    }

    static void p24_count_howOftenAnyWentTogether(Due due) {
        ShameYards x = ofPeople(3);
        due.is("count(6) at first", x.count(6), 0);
        x.go(0, 0, -1);
        due.is("count(6) of one alone", x.count(6), 0);
        x.go(1, 0, 2);
        due.is("count(6)", x.count(6), 1);
        x.go(0, 0, 2);
        due.is("count(6) of others", x.count(6), 2);
    }

    static void p24_count_peopleInRoom0(Due due) {
        ShameYards x = of(LARGEST);
        due.is("count(7) of all", x.count(7), 5);
        x.go(0, 0, 1);
        due.is("count(7)", x.count(7), 3);
        x.go(2, 4, 3);
        x.go(4, 0, -1);
        due.is("count(7) of none", x.count(7), 0);
        x.go(4, 0, -1);
        due.is("count(7) of one", x.count(7), 1);
    }

    static void p24_count_whatIsSeen(Due due) {
        ShameYards x = ofPeople(1);
        for (int seen = 0; seen <= 6; seen++) {
            due.is("count(8)", x.count(8), seen);
            x.see(0, 0, -1, 1);
        }
        due.is("count(8) at most", x.count(8), 6);
    }

    static void p24_count_lettersOfThePage(Due due) {
        ShameYards x = new ShameYards();
        for (int letters = 0; letters <= 52; letters++) {
            due.is("count(9)", x.count(9), letters);
            x.letter(64);
        }
        due.is("count(9) at most", x.count(9), 52);
    }

    static void p24_count_howOftenAMinistryWasRead(Due due) {
        ShameYards x = new ShameYards();
        x.ministry();
        due.is("count(10) of none", x.count(10), 0);
        for (int read = 1; read <= 3; read++) {
            Typing.type(x, SMALLEST);
            x.ministry();
            x.ministry();
            due.is("count(10)", x.count(10), read);
        }
    }

    static void p24_count_howOftenSendWasDone(Due due) {
        ShameYards x = new ShameYards();
        x.send(0);
        due.is("count(11) of none", x.count(11), 0);
        Typing.type(x, SMALLEST);
        x.ministry();
        for (int sent = 1; sent <= 30; sent++) {
            x.send(0);
            x.send(1);
            due.is("count(11)", x.count(11), sent);
        }
        x.send(0);
        due.is("count(11) at most", x.count(11), 30);
    }

    // "h is 1193, then for each of these numbers, in order, 31 times h, and it (as longs, wrapping)"

    private static long chain(long... numbers) {
        long h = 1193;
        for (long number : numbers) {
            h = 31 * h + number;
        }
        return h;
    }

    static void p25_digest_ofANewObject(Due due) {
        due.is("digest()", new ShameYards().digest(), chain(0, 0, 0, 0, 0, 0, 0, 0, 0, 0, 0, 0));
    }

    // "letters of THE PAGE": their codes, in order

    static void p25_digest_ofOneLetter(Due due) {
        ShameYards x = new ShameYards();
        x.letter(126);
        due.is("digest()", x.digest(), chain(126, 0, 0, 0, 0, 0, 0, 0, 0, 0, 1, 0, 0));
    }

    static void p25_digest_ofLettersInTheirOrder(Due due) {
        ShameYards x = new ShameYards();
        Typing.type(x, "2;");
        due.is("digest()", x.digest(), chain(50, 59, 0, 0, 0, 0, 0, 0, 0, 0, 0, 2, 0, 0));
        x.blank();
        Typing.type(x, ";2");
        due.is("digest() of the other order", x.digest(), chain(59, 50, 0, 0, 0, 0, 0, 0, 0, 0, 0, 2, 0, 0));
    }

    static void p25_digest_ofAFullPage(Due due) {
        ShameYards x = new ShameYards();
        long[] told = new long[52 + 12];
        for (int place = 0; place < 52; place++) {
            x.letter(40 + place);
            told[place] = 40 + place;
        }
        told[52 + 9] = 52;
        due.is("digest()", x.digest(), chain(told));
    }

    static void p25_digest_blankedLettersAreGone(Due due) {
        ShameYards x = new ShameYards();
        Typing.type(x, "2;01");
        x.blank();
        due.is("digest()", x.digest(), new ShameYards().digest());
    }

    // "with two PEOPLE, or more, what meet() tells"

    static void p25_digest_ofOnePersonHasNoMeeting(Due due) {
        // PERSON: 0 to 6, far to ROOM 0 and 1; PASSAGE: 0 to 2, pairs 0 and 10 to 14; the counts
        due.is("digest()", of("2;013;b12").digest(), chain(
                1, 1, 2, 0, 0, 1023, 0, 0, NONE, 4, 0,
                0, 1, 3, 4, NONE, NONE, NONE, NONE, NONE,
                2, 1, 1, 1, 2, 0, 0, 1, 0, 0, 1, 0));
    }

    static void p25_digest_ofTwoPeopleHasTheirMeeting(Due due) {
        ShameYards x = of("3;012,122;l00,c00");
        x.go(1, 0, -1);
        x.letter(64);
        due.is("digest()", x.digest(), chain(
                4, 0, 0, 0, 0, 1023, 0, 0, NONE, 4, 0, 8, 0,
                0, 0, 0, 1, 2, 1023, 0, 2, 0, 0, NONE, 2, 1,
                0, 1, 2, 3, 1, 0, NONE, NONE, NONE,
                1, 2, 2, 3, 1, 0, NONE, NONE, NONE,
                0, 1,
                64,
                3, 2, 2, 0, 0, 2, 0, 1, 0, 1, 1, 0));
    }

    static void p25_digest_meetingOfTheFirstTwoInTwoTurns(Due due) {
        // 0 and 1 stand in ROOM 0, 2 in ROOM 1; behind two turns 2 ways of 3 lead back from 1 to 0: 5 of 9
        ShameYards x = of("3;011,011,121;c00,c00,c00");
        x.go(2, 0, -1);
        long[] told = {
            0, 0, 0, 0, 0, 1023, 0, 0, NONE, 1, 0, 2, 0,
            0, 0, 0, 0, 0, 1023, 0, 0, NONE, 1, 0, 2, 0,
            0, 0, 0, 1, 1, 1023, 0, 1, 0, 0, NONE, 1, 2,
            0, 1, 1, 1, NONE, NONE, NONE, NONE, NONE,
            0, 1, 1, 1, NONE, NONE, NONE, NONE, NONE,
            1, 2, 1, 1, NONE, NONE, NONE, NONE, NONE,
            5, 9,
            3, 3, 3, 0, 0, 1, 0, 2, 0, 0, 1, 0};
        due.is("digest()", x.digest(), chain(told));
    }

    static void p25_digest_whereNoneCanComeAndNoLiesCanBe(Due due) {
        ShameYards x = of("3;011;c00");
        x.see(0, 0, -1, 120);
        due.is("digest()", x.digest(), chain(
                0, 0, 0, 0, 0, 0, NONE, 0, NONE, 1, 0, NONE, NONE,
                0, 1, 1, 1, NONE, NONE, NONE, NONE, NONE,
                3, 1, 1, 0, 0, 0, 0, 1, 1, 0, 1, 0));
    }

    static void p25_digest_changesNothing(Due due) {
        ShameYards x = new ShameYards();
        Twins.lively(x);
        Twins.unchanged(due, "digest()", ShameYards::digest, x.digest());
        due.is("digest() again", x.digest(), x.digest());
        due.is("count(11), it is no send()", x.count(11), 1);
    }
}
