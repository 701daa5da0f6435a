/** Days by a seed: promise 21. */
final class DaysEdges extends Edges {
    private static void days(Due due, String text, int times, int seed, int steps, int inRoom0, int seedThen) {
        ShameYards x = of(text);
        String call = "days(" + times + ", " + seed + ", ";
        due.is(call + "0) of " + text, x.days(times, seed, 0), steps);
        due.is(call + "1) of " + text, x.days(times, seed, 1), inRoom0);
        due.is(call + "2) of " + text, x.days(times, seed, 2), seedThen);
    }

    // "OUTSIDE: times (1 to 60), seed (0 at least), what"

    static void p21_days_times1AreTheFewest(Due due) {
        days(due, "2;013;c00", 1, 1, 3, 0, 662824084);
    }

    static void p21_days_times60AreTheMost(Due due) {
        // three draws each time
        int seed = 1;
        for (int draw = 0; draw < 180; draw++) {
            seed = (int) ((seed * 1103515245L + 12345) % (1L << 31));
        }
        days(due, "2;011;c09", 60, 1, 60 * 19, 1, seed);
    }

    static void p21_days_timesBesideAreOutside(Due due) {
        ShameYards x = ofPeople(1);
        int[] wrong = {0, 61, -1, 62, LEAST, MOST, 65536 + 1, 256 + 1};
        for (int what = 0; what <= 2; what++) {
            int asked = what;
            each(due, "days(%d, 1, " + what + ")", wrong, times -> x.days(times, 1, asked), OUTSIDE);
        }
    }

    static void p21_days_seed0IsTheLeast(Due due) {
        // 0 by 1; 21468 by 1; 9988 by 4 is 0: a LIE
        days(due, "2;013;c00", 1, 0, 3, 0, 654583775);
        days(due, "2;013;c00", 2, 0, 3 + 5, 1, 1109335178);
    }

    static void p21_days_seedOfTheMost(Due due) {
        // its next one is 1043980748: the product does not stay within 32 bits
        days(due, "2;013;c00", 1, MOST, 3, 0, 646343466);
    }

    static void p21_days_seedBelow0IsOutside(Due due) {
        ShameYards x = ofPeople(1);
        each(due, "days(1, %d, 0)", new int[] {-1, -2, LEAST}, seed -> x.days(1, seed, 0), OUTSIDE);
    }

    static void p21_days_whatBesideIsOutside(Due due) {
        ShameYards x = ofPeople(1);
        each(due, "days(1, 1, %d)", beyond(3), what -> x.days(1, 1, what), OUTSIDE);
    }

    static void p21_days_outsideChangesNothing(Due due) {
        Twins.unchanged(due, "days(0, 1, 0)", x -> x.days(0, 1, 0), OUTSIDE);
        Twins.unchanged(due, "days(61, 1, 0)", x -> x.days(61, 1, 0), OUTSIDE);
        Twins.unchanged(due, "days(1, -1, 0)", x -> x.days(1, -1, 0), OUTSIDE);
        Twins.unchanged(due, "days(1, 1, 3)", x -> x.days(1, 1, 3), OUTSIDE);
    }

    // "STATE: no MINISTRY"

    static void p21_days_noMinistryIsState(Due due) {
        ShameYards x = new ShameYards();
        for (int what = 0; what <= 2; what++) {
            due.is("days(1, 0, " + what + ")", x.days(1, 0, what), STATE);
            due.is("days(60, MOST, " + what + ")", x.days(60, MOST, what), STATE);
        }
    }

    static void p21_days_outsideIsToldAheadOfState(Due due) {
        ShameYards x = new ShameYards();
        due.is("days(0, 0, 0)", x.days(0, 0, 0), OUTSIDE);
        due.is("days(61, 0, 0)", x.days(61, 0, 0), OUTSIDE);
        due.is("days(1, -1, 0)", x.days(1, -1, 0), OUTSIDE);
        due.is("days(1, 0, 3)", x.days(1, 0, 3), OUTSIDE);
        due.is("days(1, 0, -1)", x.days(1, 0, -1), OUTSIDE);
    }

    // the draws from 1: 16838, 5758, 10113, 17515, 31051, 5627, 23010, 7419, 16212 ..
    // the draws from 7: 19564, 9806, 10868, 22674, 32531, 3365, 32034, 31790, 7985 ..

    // "one by a DRAW of how many PEOPLE there are goes alone through a PASSAGE by a DRAW of how many
    // end where he is, in their order"

    static void p21_days_personByTheFirstDraw(Due due) {
        // 16838 by 5 is 3; by 2 is 0
        days(due, "2;011;c00,c10,c20,c30,c40", 1, 1, 4, 4, 662824084);
        days(due, "2;011;c00,c10", 1, 1, 1, 1, 662824084);
    }

    static void p21_days_passageByTheSecondDraw(Due due) {
        // 5758 by 7 is 4; by 3 is 1: of 0, 2 and 3, which end there, it is 2
        days(due, "2;011,012,013,014,015,016,017;c00", 1, 1, 5, 0, 662824084);
        days(due, "3;013,129,015,021;c00", 1, 1, 5, 0, 662824084);
    }

    static void p21_days_nextOneFromWhereHeIsThen(Due due) {
        // 0 to 1 by 0, 5758 by 1; then 31051 by 3 is 1: of 0, 1 and 2 back in ROOM 1 it is 1
        days(due, "3;011,124,122;c00", 2, 1, 1 + 4, 0, 368800899);
    }

    static void p21_days_likeKindsStepAlone(Due due) {
        // 17515 by 2 is 1, 22674 by 2 is 0: all draws of one at a time, never the mean
        days(due, "2;011;l00,c00", 1, 1, 2, 1, 662824084);
        days(due, "2;011;l00,c00", 2, 1, 2 + 1, 0, 368800899);
    }

    // "1103515245 times it and 12345, its rest by 2 to the 31; then that by 65536 (rounded down), its rest"

    static void p21_days_drawIsRoundedDown(Due due) {
        // the next seeds are 0, 65535, 65536, 131071 and 131072: draws of 0, 0, 1, 1 and 2 by 2
        days(due, "2;011;c00,c10", 1, 2088216195, 1, 1, 1406932606);
        days(due, "2;011;c00,c10", 1, 2032319262, 1, 1, 732068885);
        days(due, "2;011;c00,c10", 1, 1742513795, 2, 1, 1850021502);
        days(due, "2;011;c00,c10", 1, 1686616862, 2, 1, 1175157781);
        days(due, "2;011;c00,c10", 1, 1396811395, 1, 1, 145626750);
    }

    static void p21_days_drawsOfTheGreatestSeeds(Due due) {
        // the next seeds are 65537 and 65536 below 2 to the 31, and 1 below it: 32766, 32767 and 32767
        days(due, "2;011;c00,c10", 1, 576240414, 1, 1, 1993374741);
        days(due, "2;011;c00,c10", 1, 286434947, 2, 1, 963843710);
        days(due, "2;011;c00,c10", 1, 230538014, 2, 1, 288979989);
    }

    // "(if none does, he stays, without that DRAW)"

    static void p21_days_whoStaysDrawsOnceLess(Due due) {
        days(due, "3;121;c00", 1, 1, 0, 1, 377401575);
        days(due, "3;121;c00", 2, 1, 0, 1, 1147902781);
    }

    static void p21_days_whoStaysMayLie(Due due) {
        ShameYards x = of("3;121;c09");
        due.is("days(60, 0, 0)", x.days(60, 0, 0), 0);
        due.is("days(60, 0, 1)", x.days(60, 0, 1), 1);
    }

    // "then, by a DRAW of 4, if that is 0, he tells a LIE (9 at most)"

    static void p21_days_lieBehindTheWalk(Due due) {
        // 10868 by 4 is 0: the first walk is without it, the second one with it
        days(due, "2;013;c00", 1, 7, 3, 0, 712265938);
        days(due, "2;013;c00", 2, 7, 3 + 5, 1, 220562521);
    }

    static void p21_days_noLieIfItIsNot0(Due due) {
        // 10113 by 4 is 1
        days(due, "2;013;c00", 2, 1, 3 + 3, 1, 368800899);
    }

    static void p21_days_the9thLieIsTheLast(Due due) {
        days(due, "2;011;c08", 2, 7, 17 + 19, 1, 220562521);
        days(due, "2;011;c09", 2, 7, 19 + 19, 1, 220562521);
        due.is("days(60, 7, 0)", of("2;011;c09").days(60, 7, 0), 60 * 19);
    }

    static void p21_days_liesOfOneAreHisAlone(Due due) {
        // 19564 by 2 is 0, who lies; 22674 by 2 is 0 again, 32034 by 2 too
        days(due, "2;011;c00,c09", 2, 7, 1 + 3, 2, 220562521);
    }

    // "how many STEPS there were; how many PEOPLE are in ROOM 0 then"

    static void p21_days_mostStepsThatThereCanBe(Due due) {
        due.is("days(60, 1, 0)", of("2;019;l99").days(60, 1, 0), 60 * 108);
    }

    static void p21_days_fromWhereAllAre(Due due) {
        ShameYards x = of("3;011,125;c00,c00");
        x.go(0, 0, -1);
        x.go(0, 1, -1);
        // PERSON 0, by passage 1, which alone ends where he is
        due.is("days(1, 1, 0)", x.days(1, 1, 0), 5);
        due.is("days(1, 1, 1)", x.days(1, 1, 1), 1);
    }

    static void p21_days_stepsThatWereTakenAreNotAmongThem(Due due) {
        ShameYards x = of("2;013;c00");
        x.go(0, 0, -1);
        due.is("days(1, 1, 0)", x.days(1, 1, 0), 3);
        due.is("days(1, 1, 1)", x.days(1, 1, 1), 1);
    }

    static void p21_days_oneWhoIsTiredGoesToo(Due due) {
        ShameYards x = of("2;019;l99");
        times(84, () -> x.go(0, 0, -1));
        due.is("go(0, 0, -1)", x.go(0, 0, -1), FULL);
        due.is("days(2, 1, 0)", x.days(2, 1, 0), 216);
    }

    // "as they would be"

    static void p21_days_changesNothing(Due due) {
        Twins.unchanged(due, "days(1, 1, 2)", x -> x.days(1, 1, 2), 662824084);
        ShameYards x = new ShameYards();
        Twins.lively(x);
        long before = x.digest();
        x.days(60, 5, 0);
        due.is("digest()", x.digest(), before);
    }

    static void p21_days_sameSeedSameDays(Due due) {
        ShameYards x = new ShameYards();
        Twins.lively(x);
        int steps = x.days(60, 5, 0);
        x.days(60, 6, 0);
        due.is("days(60, 5, 0) again", x.days(60, 5, 0), steps);
    }

    static void p21_days_oneMoreTimeGoesOnFromTheSeedThen(Due due) {
        ShameYards x = of("2;011;c09");
        int then = x.days(30, 5, 2);
        due.is("days(60, 5, 2)", x.days(60, 5, 2), x.days(30, then, 2));
    }
}
